/-! KiteLandModel.number(III)Z -/
theorem e_X12_number_0 : decode cX12_number 0 = .ok (.aload_n 0, 1) ∧ decode cX12_number 1 = .ok (.getfield 138, 3) ∧ decode cX12_number 4 = .ok (.iconst 3, 1) ∧ decode cX12_number 5 = .ok (.if_icmp .eq 9, 3) ∧ decode cX12_number 8 = .ok (.aload_n 0, 1) ∧ decode cX12_number 9 = .ok (.iconst 2, 1) ∧ decode cX12_number 10 = .ok (.invokevirtual 175, 3) ∧ decode cX12_number 13 = .ok (.ireturn, 1) ∧ decode cX12_number 14 = .ok (.aload_n 0, 1) ∧ decode cX12_number 15 = .ok (.getfield 135, 3) := by decide +kernel
theorem e_X12_number_1 : decode cX12_number 18 = .ok (.iload_n 2, 1) ∧ decode cX12_number 19 = .ok (.if_icmp .lt 11, 3) ∧ decode cX12_number 22 = .ok (.aload_n 0, 1) ∧ decode cX12_number 23 = .ok (.getfield 135, 3) ∧ decode cX12_number 26 = .ok (.iload_n 3, 1) ∧ decode cX12_number 27 = .ok (.if_icmp .le 9, 3) ∧ decode cX12_number 30 = .ok (.aload_n 0, 1) ∧ decode cX12_number 31 = .ok (.iconst 4, 1) ∧ decode cX12_number 32 = .ok (.invokevirtual 175, 3) ∧ decode cX12_number 35 = .ok (.ireturn, 1) := by decide +kernel
theorem e_X12_number_2 : decode cX12_number 36 = .ok (.aload_n 0, 1) ∧ decode cX12_number 37 = .ok (.getfield 7, 3) ∧ decode cX12_number 40 = .ok (.iload_n 1, 1) ∧ decode cX12_number 41 = .ok (.aload_n 0, 1) ∧ decode cX12_number 42 = .ok (.getfield 135, 3) ∧ decode cX12_number 45 = .ok (.iastore, 1) ∧ decode cX12_number 46 = .ok (.aload_n 0, 1) ∧ decode cX12_number 47 = .ok (.invokevirtual 169, 3) ∧ decode cX12_number 50 = .ok (.iconst 1, 1) ∧ decode cX12_number 51 = .ok (.ireturn, 1) := by decide +kernel
theorem S_X12_number {G : Kg} {σ : Kmem} {Q : Int → Kmem → Prop} {l1 l2 l3 : Int}  (h : (rI (σ 0 12)) ∧ ((σ 0 12 = 3 → (rI (σ 0 15)) ∧ (rI l2) ∧ ((σ 0 15 < l2 → (tok σ ∧ (0 : Int) ≤ σ 0 18 ∧ (σ 0 18 : Int) ≤ 9) ∧ Q 0 (tF σ (4))) ∧ (l2 ≤ σ 0 15 → (rI l3) ∧ ((σ 0 15 ≤ l3 → (0 ≤ l1 ∧ l1 < 3598) ∧ ∀ m9 : Kmem, m9 = (kup σ 1 l1 (σ 0 15)) → (tx0 m9) ∧ Q 1 (tA m9)) ∧ (l3 < σ 0 15 → (tok σ ∧ (0 : Int) ≤ σ 0 18 ∧ (σ 0 18 : Int) ≤ 9) ∧ Q 0 (tF σ (4))))))) ∧ (σ 0 12 ≠ 3 → (tok σ ∧ (0 : Int) ≤ σ 0 18 ∧ (σ 0 18 : Int) ≤ 9) ∧ Q 0 (tF σ (2))))) : Run G WM M_X12_number 2 0 0 [vA G 0, vI l1, vI l2, vI l3] σ Q := by
  refine Run.of (by decide +kernel) (by show (4 : Nat) ≤ 4; decide) ?_
  show Ex G WM M_X12_number 2 0 0 0 [(0, vA G 0), (1, vI l1), (2, vI l2), (3, vI l3)] [] σ Q
  refine R_aload_n e_X12_number_0.1 0 rfl ?_
  refine R_getI 12 12 12 e_X12_number_0.2.1 f_X12_138 km_0 (fun _ _ => rfl) rfl ?_
  refine R_iconst e_X12_number_0.2.2.1 ?_
  obtain ⟨q1, h⟩ := h
  refine R_icmp_eq 14 e_X12_number_0.2.2.2.1 (by decide) q1 (by decide) (fun q => ?_) (fun q => ?_)
  · replace h := h.1 q
    refine R_aload_n e_X12_number_0.2.2.2.2.2.2.2.2.1 0 rfl ?_
    refine R_getI 12 15 15 e_X12_number_0.2.2.2.2.2.2.2.2.2 f_X12_135 km_0 (fun _ _ => rfl) rfl ?_
    refine R_iload_n e_X12_number_1.1 2 rfl ?_
    obtain ⟨q2, h⟩ := h
    obtain ⟨q3, h⟩ := h
    refine R_icmp_lt 30 e_X12_number_1.2.1 (by decide) q2 q3 (fun q => ?_) (fun q => ?_)
    · replace h := h.1 q
      refine R_aload_n e_X12_number_1.2.2.2.2.2.2.1 0 rfl ?_
      refine R_iconst e_X12_number_1.2.2.2.2.2.2.2.1 ?_
      obtain ⟨q6, h⟩ := h
      refine R_callV (mc := 0) (ms := 0) (mc' := 0) (ms' := 0) (M' := M_X12_fails) (d' := 0) (as := [vI 4]) (st := []) 12 1 e_X12_number_1.2.2.2.2.2.2.2.2.1 (kCVof m_X12_fails l_X12_175) rfl (by decide) km_0 (by decide) (by decide) rfl rfl (by show (0 : Nat) ≤ 8; decide) ?_
      refine Run.mono (P_X12_fails q6) (fun r s e => ?_)
      obtain ⟨e1, e2⟩ := e
      refine R_eqs (st2 := [vI 0]) (σ2 := (tF σ (4))) (by rw [e1]; rfl) e2 ?_
      exact R_zreturn e_X12_number_1.2.2.2.2.2.2.2.2.2 rfl (Or.inl rfl) h
    · replace h := h.2 q
      refine R_aload_n e_X12_number_1.2.2.1 0 rfl ?_
      refine R_getI 12 15 15 e_X12_number_1.2.2.2.1 f_X12_135 km_0 (fun _ _ => rfl) rfl ?_
      refine R_iload_n e_X12_number_1.2.2.2.2.1 3 rfl ?_
      obtain ⟨q7, h⟩ := h
      refine R_icmp_le 36 e_X12_number_1.2.2.2.2.2.1 (by decide) q2 q7 (fun q => ?_) (fun q => ?_)
      · replace h := h.1 q
        refine R_aload_n e_X12_number_2.1 0 rfl ?_
        refine R_getA 12 0 1 e_X12_number_2.2.1 f_X12_7 km_0 (fun _ _ => rfl) rm_0_0 (by decide) ?_
        refine R_iload_n e_X12_number_2.2.2.1 1 rfl ?_
        refine R_aload_n e_X12_number_2.2.2.2.1 0 rfl ?_
        refine R_getI 12 15 15 e_X12_number_2.2.2.2.2.1 f_X12_135 km_0 (fun _ _ => rfl) rfl ?_
        obtain ⟨q8, h⟩ := h
        refine R_iast 3598 WM_ok e_X12_number_2.2.2.2.2.2.1 kma_1 q8 ?_
        obtain ⟨m9, e10⟩ : ∃ z : Kmem, z = (kup σ 1 l1 (σ 0 15)) := ⟨_, rfl⟩
        rw [← e10]
        replace h := h m9 e10
        refine R_aload_n e_X12_number_2.2.2.2.2.2.2.1 0 rfl ?_
        obtain ⟨q13, h⟩ := h
        refine R_callV (mc := 0) (ms := 0) (mc' := 0) (ms' := 0) (M' := M_X12_ahead) (d' := 1) (as := []) (st := []) 12 0 e_X12_number_2.2.2.2.2.2.2.2.1 (kCVof m_X12_ahead l_X12_169) rfl (by decide) km_0 (by decide) (by decide) rfl rfl (by show (0 : Nat) ≤ 8; decide) ?_
        refine Run.mono (P_X12_ahead q13) (fun r s e => ?_)
        obtain ⟨e1, e2⟩ := e
        refine R_eqs (st2 := []) (σ2 := (tA m9)) (by rfl) e2 ?_
        refine R_iconst e_X12_number_2.2.2.2.2.2.2.2.2.1 ?_
        exact R_zreturn e_X12_number_2.2.2.2.2.2.2.2.2.2 rfl (Or.inr rfl) h
      · replace h := h.2 q
        refine R_aload_n e_X12_number_1.2.2.2.2.2.2.1 0 rfl ?_
        refine R_iconst e_X12_number_1.2.2.2.2.2.2.2.1 ?_
        obtain ⟨q16, h⟩ := h
        refine R_callV (mc := 0) (ms := 0) (mc' := 0) (ms' := 0) (M' := M_X12_fails) (d' := 0) (as := [vI 4]) (st := []) 12 1 e_X12_number_1.2.2.2.2.2.2.2.2.1 (kCVof m_X12_fails l_X12_175) rfl (by decide) km_0 (by decide) (by decide) rfl rfl (by show (0 : Nat) ≤ 8; decide) ?_
        refine Run.mono (P_X12_fails q16) (fun r s e => ?_)
        obtain ⟨e1, e2⟩ := e
        refine R_eqs (st2 := [vI 0]) (σ2 := (tF σ (4))) (by rw [e1]; rfl) e2 ?_
        exact R_zreturn e_X12_number_1.2.2.2.2.2.2.2.2.2 rfl (Or.inl rfl) h
  · replace h := h.2 q
    refine R_aload_n e_X12_number_0.2.2.2.2.1 0 rfl ?_
    refine R_iconst e_X12_number_0.2.2.2.2.2.1 ?_
    obtain ⟨q19, h⟩ := h
    refine R_callV (mc := 0) (ms := 0) (mc' := 0) (ms' := 0) (M' := M_X12_fails) (d' := 0) (as := [vI 2]) (st := []) 12 1 e_X12_number_0.2.2.2.2.2.2.1 (kCVof m_X12_fails l_X12_175) rfl (by decide) km_0 (by decide) (by decide) rfl rfl (by show (0 : Nat) ≤ 8; decide) ?_
    refine Run.mono (P_X12_fails q19) (fun r s e => ?_)
    obtain ⟨e1, e2⟩ := e
    refine R_eqs (st2 := [vI 0]) (σ2 := (tF σ (2))) (by rw [e1]; rfl) e2 ?_
    exact R_zreturn e_X12_number_0.2.2.2.2.2.2.2.1 rfl (Or.inl rfl) h
/-! KiteLandModel.findHere(II)I -/
theorem e_X12_findHere_0 : decode cX12_findHere 0 = .ok (.iconst 0, 1) ∧ decode cX12_findHere 1 = .ok (.istore_n 3, 1) ∧ decode cX12_findHere 2 = .ok (.iload_n 3, 1) ∧ decode cX12_findHere 3 = .ok (.iload_n 2, 1) ∧ decode cX12_findHere 4 = .ok (.if_icmp .ge 27, 3) ∧ decode cX12_findHere 7 = .ok (.aload_n 0, 1) ∧ decode cX12_findHere 8 = .ok (.getfield 13, 3) ∧ decode cX12_findHere 11 = .ok (.iload_n 1, 1) ∧ decode cX12_findHere 12 = .ok (.iload_n 3, 1) ∧ decode cX12_findHere 13 = .ok (.iadd, 1) := by decide +kernel
theorem e_X12_findHere_1 : decode cX12_findHere 14 = .ok (.laload, 1) ∧ decode cX12_findHere 15 = .ok (.aload_n 0, 1) ∧ decode cX12_findHere 16 = .ok (.invokevirtual 182, 3) ∧ decode cX12_findHere 19 = .ok (.lcmp, 1) ∧ decode cX12_findHere 20 = .ok (.ifCond .ne 5, 3) ∧ decode cX12_findHere 23 = .ok (.iload_n 3, 1) ∧ decode cX12_findHere 24 = .ok (.ireturn, 1) ∧ decode cX12_findHere 25 = .ok (.iinc 3 1, 3) ∧ decode cX12_findHere 28 = .ok (.goto (-26), 3) ∧ decode cX12_findHere 31 = .ok (.iconst (-1), 1) := by decide +kernel
theorem e_X12_findHere_2 : decode cX12_findHere 32 = .ok (.ireturn, 1) := by decide +kernel
abbrev E_X12_findHere_2 (G : Kg) (l1 l2 l3 : Int) (σ : Kmem) (Q : Int → Kmem → Prop) : Prop := Ex G WM M_X12_findHere 2 0 0 2 [(0, vA G 0), (1, vI l1), (2, vI l2), (3, vI l3)] [] σ Q
theorem S_X12_findHere {G : Kg} {σ : Kmem} {Q : Int → Kmem → Prop} {l1 l2 : Int}  (h : E_X12_findHere_2 G l1 l2 0 σ Q) : Run G WM M_X12_findHere 2 0 0 [vA G 0, vI l1, vI l2] σ Q := by
  refine Run.of (by decide +kernel) (by show (3 : Nat) ≤ 4; decide) ?_
  show Ex G WM M_X12_findHere 2 0 0 0 [(0, vA G 0), (1, vI l1), (2, vI l2)] [] σ Q
  refine R_iconst e_X12_findHere_0.1 ?_
  refine R_istore_n (ls2 := [(3, vI 0), (0, vA G 0), (1, vI l1), (2, vI l2)]) e_X12_findHere_0.2.1 (by decide) rfl ?_
  refine R_ls (ls2 := [(0, vA G 0), (1, vI l1), (2, vI l2), (3, vI 0)]) [1, 2, 3, 0] rfl ?_
  exact h
theorem S_X12_findHere_2 {G : Kg} {σ : Kmem} {Q : Int → Kmem → Prop} {l1 l2 l3 : Int}  (h : (rI l3) ∧ (rI l2) ∧ ((l2 ≤ l3 → Q (-1) σ) ∧ (l3 < l2 → (0 ≤ l1 + l3 ∧ l1 + l3 < 120) ∧ (tok σ ∧ σ 0 12 = 2 ∧ σ 0 14 - σ 0 13 ≤ 8) ∧ (rL (σ 2 (l1 + l3))) ∧ (rL (tNm σ)) ∧ ((σ 2 (l1 + l3) ≠ tNm σ → E_X12_findHere_2 G l1 l2 (l3 + 1) σ Q) ∧ (σ 2 (l1 + l3) = tNm σ → Q l3 σ))))) : E_X12_findHere_2 G l1 l2 l3 σ Q := by
  refine R_iload_n e_X12_findHere_0.2.2.1 3 rfl ?_
  refine R_iload_n e_X12_findHere_0.2.2.2.1 2 rfl ?_
  obtain ⟨q1, h⟩ := h
  obtain ⟨q2, h⟩ := h
  refine R_icmp_ge 31 e_X12_findHere_0.2.2.2.2.1 (by decide) q1 q2 (fun q => ?_) (fun q => ?_)
  · replace h := h.1 q
    refine R_iconst e_X12_findHere_1.2.2.2.2.2.2.2.2.2 ?_
    exact R_ireturn e_X12_findHere_2 rfl h
  · replace h := h.2 q
    refine R_aload_n e_X12_findHere_0.2.2.2.2.2.1 0 rfl ?_
    refine R_getA 12 1 2 e_X12_findHere_0.2.2.2.2.2.2.1 f_X12_13 km_0 (fun _ _ => rfl) rm_0_1 (by decide) ?_
    refine R_iload_n e_X12_findHere_0.2.2.2.2.2.2.2.1 1 rfl ?_
    refine R_iload_n e_X12_findHere_0.2.2.2.2.2.2.2.2.1 3 rfl ?_
    refine R_iadd e_X12_findHere_0.2.2.2.2.2.2.2.2.2 ?_
    obtain ⟨q3, h⟩ := h
    refine R_lald 120 e_X12_findHere_1.1 kma_2 q3 ?_
    refine R_aload_n e_X12_findHere_1.2.1 0 rfl ?_
    obtain ⟨q6, h⟩ := h
    refine R_callV (mc := 0) (ms := 0) (mc' := 0) (ms' := 0) (M' := M_X12_nameHere) (d' := 1) (as := []) (st := [vL (σ 2 (l1 + l3))]) 12 0 e_X12_findHere_1.2.2.1 (kCVof m_X12_nameHere l_X12_182) rfl (by decide) km_0 (by decide) (by decide) rfl rfl (by show (2 : Nat) ≤ 8; decide) ?_
    refine Run.mono (P_X12_nameHere q6) (fun r s e => ?_)
    obtain ⟨e1, e2⟩ := e
    refine R_eqs (st2 := [vL (tNm σ), vL (σ 2 (l1 + l3))]) (σ2 := σ) (by rw [e1]; rfl) e2 ?_
    obtain ⟨q7, h⟩ := h
    obtain ⟨q8, h⟩ := h
    refine R_lcmp e_X12_findHere_1.2.2.2.1 q7 q8 ?_
    refine R_if_ne 25 e_X12_findHere_1.2.2.2.2.1 (by decide) (kcmp_r _ _) (fun q => ?_) (fun q => ?_)
    · replace h := h.1 (kcmp_ne_t.mp q)
      refine R_iinc (ls2 := [(3, vI (l3 + 1)), (0, vA G 0), (1, vI l1), (2, vI l2)]) e_X12_findHere_1.2.2.2.2.2.2.2.1 3 rfl (by decide) rfl ?_
      refine R_goto 2 e_X12_findHere_1.2.2.2.2.2.2.2.2.1 (by decide) ?_
      refine R_ls (ls2 := [(0, vA G 0), (1, vI l1), (2, vI l2), (3, vI (l3 + 1))]) [1, 2, 3, 0] rfl ?_
      exact h
    · replace h := h.2 (kcmp_ne_f.mp q)
      refine R_iload_n e_X12_findHere_1.2.2.2.2.2.1 3 rfl ?_
      exact R_ireturn e_X12_findHere_1.2.2.2.2.2.2.1 rfl h
/-! KiteLandModel.isThere(I)Z -/
theorem e_X12_isThere_0 : decode cX12_isThere 0 = .ok (.aload_n 0, 1) ∧ decode cX12_isThere 1 = .ok (.ldc 186, 2) ∧ decode cX12_isThere 3 = .ok (.invokevirtual 178, 3) ∧ decode cX12_isThere 6 = .ok (.iload_n 1, 1) ∧ decode cX12_isThere 7 = .ok (.if_icmp .eq 5, 3) ∧ decode cX12_isThere 10 = .ok (.iconst 0, 1) ∧ decode cX12_isThere 11 = .ok (.ireturn, 1) ∧ decode cX12_isThere 12 = .ok (.aload_n 0, 1) ∧ decode cX12_isThere 13 = .ok (.invokevirtual 169, 3) ∧ decode cX12_isThere 16 = .ok (.iconst 1, 1) := by decide +kernel
theorem e_X12_isThere_1 : decode cX12_isThere 17 = .ok (.ireturn, 1) := by decide +kernel
theorem S_X12_isThere {G : Kg} {σ : Kmem} {Q : Int → Kmem → Prop} {l1 : Int}  (h : (tok σ) ∧ (rI (tWi σ)) ∧ (rI l1) ∧ ((tWi σ = l1 → (tx0 σ) ∧ Q 1 (tA σ)) ∧ (tWi σ ≠ l1 → Q 0 σ))) : Run G WM M_X12_isThere 5 0 0 [vA G 0, vI l1] σ Q := by
  refine Run.of (by decide +kernel) (by show (2 : Nat) ≤ 2; decide) ?_
  show Ex G WM M_X12_isThere 5 0 0 0 [(0, vA G 0), (1, vI l1)] [] σ Q
  refine R_aload_n e_X12_isThere_0.1 0 rfl ?_
  refine R_ldcS (i := 28) (-38) e_X12_isThere_0.2.1 rfl rfl ?_
  obtain ⟨q3, h⟩ := h
  refine R_callV (mc := 0) (ms := 0) (mc' := 0) (ms' := 0) (M' := M_X12_inWords) (d' := 4) (as := [vA G (-38)]) (st := []) 12 1 e_X12_isThere_0.2.2.1 (kCVof m_X12_inWords l_X12_178) rfl (by decide) km_0 (by decide) (by decide) rfl rfl (by show (0 : Nat) ≤ 8; decide) ?_
  refine Run.mono (P_X12_inWords q3) (fun r s e => ?_)
  obtain ⟨e1, e2⟩ := e
  refine R_eqs (st2 := [vI (tWi σ)]) (σ2 := σ) (by rw [e1]; rfl) e2 ?_
  refine R_iload_n e_X12_isThere_0.2.2.2.1 1 rfl ?_
  obtain ⟨q4, h⟩ := h
  obtain ⟨q5, h⟩ := h
  refine R_icmp_eq 12 e_X12_isThere_0.2.2.2.2.1 (by decide) q4 q5 (fun q => ?_) (fun q => ?_)
  · replace h := h.1 q
    refine R_aload_n e_X12_isThere_0.2.2.2.2.2.2.2.1 0 rfl ?_
    obtain ⟨q8, h⟩ := h
    refine R_callV (mc := 0) (ms := 0) (mc' := 0) (ms' := 0) (M' := M_X12_ahead) (d' := 1) (as := []) (st := []) 12 0 e_X12_isThere_0.2.2.2.2.2.2.2.2.1 (kCVof m_X12_ahead l_X12_169) rfl (by decide) km_0 (by decide) (by decide) rfl rfl (by show (0 : Nat) ≤ 8; decide) ?_
    refine Run.mono (P_X12_ahead q8) (fun r s e => ?_)
    obtain ⟨e1, e2⟩ := e
    refine R_eqs (st2 := []) (σ2 := (tA σ)) (by rfl) e2 ?_
    refine R_iconst e_X12_isThere_0.2.2.2.2.2.2.2.2.2 ?_
    exact R_zreturn e_X12_isThere_1 rfl (Or.inr rfl) h
  · replace h := h.2 q
    refine R_iconst e_X12_isThere_0.2.2.2.2.2.1 ?_
    exact R_zreturn e_X12_isThere_0.2.2.2.2.2.2.1 rfl (Or.inl rfl) h
/-! KiteLandModel.taken(I)I -/
theorem e_X12_taken_0 : decode cX12_taken 0 = .ok (.aload_n 0, 1) ∧ decode cX12_taken 1 = .ok (.aload_n 0, 1) ∧ decode cX12_taken 2 = .ok (.getfield 163, 3) ∧ decode cX12_taken 5 = .ok (.putfield 37, 3) ∧ decode cX12_taken 8 = .ok (.aload_n 0, 1) ∧ decode cX12_taken 9 = .ok (.getfield 163, 3) ∧ decode cX12_taken 12 = .ok (.ifCond .le 12, 3) ∧ decode cX12_taken 15 = .ok (.aload_n 0, 1) ∧ decode cX12_taken 16 = .ok (.bipush 9, 2) ∧ decode cX12_taken 18 = .ok (.invokevirtual 93, 3) := by decide +kernel
theorem e_X12_taken_1 : decode cX12_taken 21 = .ok (.goto 8, 3) ∧ decode cX12_taken 24 = .ok (.aload_n 0, 1) ∧ decode cX12_taken 25 = .ok (.iload_n 1, 1) ∧ decode cX12_taken 26 = .ok (.invokevirtual 97, 3) ∧ decode cX12_taken 29 = .ok (.ireturn, 1) := by decide +kernel
theorem S_X12_taken {G : Kg} {σ : Kmem} {Q : Int → Kmem → Prop} {l1 : Int}  (h : ∀ m1 : Kmem, m1 = (kup σ 0 16 (σ 0 18)) → (rI (m1 0 18)) ∧ ((m1 0 18 ≤ 0 → Q l1 (kup m1 0 2 0)) ∧ (0 < m1 0 18 → Q (-1) (kup m1 0 2 9)))) : Run G WM M_X12_taken 1 0 0 [vA G 0, vI l1] σ Q := by
  refine Run.of (by decide +kernel) (by show (2 : Nat) ≤ 2; decide) ?_
  show Ex G WM M_X12_taken 1 0 0 0 [(0, vA G 0), (1, vI l1)] [] σ Q
  refine R_aload_n e_X12_taken_0.1 0 rfl ?_
  refine R_aload_n e_X12_taken_0.2.1 0 rfl ?_
  refine R_getI 12 18 18 e_X12_taken_0.2.2.1 f_X12_163 km_0 (fun _ _ => rfl) rfl ?_
  refine R_putI 12 16 16 WM_ok e_X12_taken_0.2.2.2.1 f_X12_37 km_0 rfl rfl rfl ?_
  obtain ⟨m1, e2⟩ : ∃ z : Kmem, z = (kup σ 0 16 (σ 0 18)) := ⟨_, rfl⟩
  rw [← e2]
  replace h := h m1 e2
  refine R_aload_n e_X12_taken_0.2.2.2.2.1 0 rfl ?_
  refine R_getI 12 18 18 e_X12_taken_0.2.2.2.2.2.1 f_X12_163 km_0 (fun _ _ => rfl) rfl ?_
  obtain ⟨q3, h⟩ := h
  refine R_if_le 24 e_X12_taken_0.2.2.2.2.2.2.1 (by decide) q3  (fun q => ?_) (fun q => ?_)
  · replace h := h.1 q
    refine R_aload_n e_X12_taken_1.2.1 0 rfl ?_
    refine R_iload_n e_X12_taken_1.2.2.1 1 rfl ?_
    refine R_callV (mc := 0) (ms := 0) (mc' := 0) (ms' := 0) (M' := M_X12_gives) (d' := 0) (as := [vI l1]) (st := []) 12 1 e_X12_taken_1.2.2.2.1 (kCVof m_X12_gives l_X12_97) rfl (by decide) km_0 (by decide) (by decide) rfl rfl (by show (0 : Nat) ≤ 8; decide) ?_
    refine S_X12_gives ?_
    refine R_eqs (st2 := [vI l1]) (σ2 := (kup m1 0 2 0)) rfl rfl ?_
    exact R_ireturn e_X12_taken_1.2.2.2.2 rfl h
  · replace h := h.2 q
    refine R_aload_n e_X12_taken_0.2.2.2.2.2.2.2.1 0 rfl ?_
    refine R_bipush e_X12_taken_0.2.2.2.2.2.2.2.2.1 (by decide) ?_
    refine R_callV (mc := 0) (ms := 0) (mc' := 0) (ms' := 0) (M' := M_X12_refuse) (d' := 0) (as := [vI 9]) (st := []) 12 1 e_X12_taken_0.2.2.2.2.2.2.2.2.2 (kCVof m_X12_refuse l_X12_93) rfl (by decide) km_0 (by decide) (by decide) rfl rfl (by show (0 : Nat) ≤ 8; decide) ?_
    refine S_X12_refuse ?_
    refine R_eqs (st2 := [vI (-1)]) (σ2 := (kup m1 0 2 9)) rfl rfl ?_
    refine R_goto 29 e_X12_taken_1.1 (by decide) ?_
    exact R_ireturn e_X12_taken_1.2.2.2.2 rfl h
