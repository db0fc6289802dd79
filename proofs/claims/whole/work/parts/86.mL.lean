/-! KiteLandModel.begins(II)Z -/
theorem e_X12_begins_0 : decode cX12_begins 0 = .ok (.iload_n 1, 1) ∧ decode cX12_begins 1 = .ok (.ifCond .lt 16, 3) ∧ decode cX12_begins 4 = .ok (.iload_n 1, 1) ∧ decode cX12_begins 5 = .ok (.aload_n 0, 1) ∧ decode cX12_begins 6 = .ok (.getfield 117, 3) ∧ decode cX12_begins 9 = .ok (.if_icmp .gt 8, 3) ∧ decode cX12_begins 12 = .ok (.iload_n 1, 1) ∧ decode cX12_begins 13 = .ok (.iload_n 2, 1) ∧ decode cX12_begins 14 = .ok (.if_icmp .le 5, 3) ∧ decode cX12_begins 17 = .ok (.iconst 0, 1) := by decide +kernel
theorem e_X12_begins_1 : decode cX12_begins 18 = .ok (.ireturn, 1) ∧ decode cX12_begins 19 = .ok (.aload_n 0, 1) ∧ decode cX12_begins 20 = .ok (.iload_n 1, 1) ∧ decode cX12_begins 21 = .ok (.putfield 123, 3) ∧ decode cX12_begins 24 = .ok (.iconst 0, 1) ∧ decode cX12_begins 25 = .ok (.istore_n 3, 1) ∧ decode cX12_begins 26 = .ok (.iload_n 3, 1) ∧ decode cX12_begins 27 = .ok (.iload_n 1, 1) ∧ decode cX12_begins 28 = .ok (.if_icmp .ge 21, 3) ∧ decode cX12_begins 31 = .ok (.aload_n 0, 1) := by decide +kernel
theorem e_X12_begins_2 : decode cX12_begins 32 = .ok (.getfield 34, 3) ∧ decode cX12_begins 35 = .ok (.iload_n 3, 1) ∧ decode cX12_begins 36 = .ok (.aload_n 0, 1) ∧ decode cX12_begins 37 = .ok (.getfield 30, 3) ∧ decode cX12_begins 40 = .ok (.iload_n 3, 1) ∧ decode cX12_begins 41 = .ok (.baload, 1) ∧ decode cX12_begins 42 = .ok (.bastore, 1) ∧ decode cX12_begins 43 = .ok (.iinc 3 1, 3) ∧ decode cX12_begins 46 = .ok (.goto (-20), 3) ∧ decode cX12_begins 49 = .ok (.aload_n 0, 1) := by decide +kernel
theorem e_X12_begins_3 : decode cX12_begins 50 = .ok (.iconst 0, 1) ∧ decode cX12_begins 51 = .ok (.putfield 117, 3) ∧ decode cX12_begins 54 = .ok (.aload_n 0, 1) ∧ decode cX12_begins 55 = .ok (.iconst 0, 1) ∧ decode cX12_begins 56 = .ok (.putfield 163, 3) ∧ decode cX12_begins 59 = .ok (.aload_n 0, 1) ∧ decode cX12_begins 60 = .ok (.iconst (-1), 1) ∧ decode cX12_begins 61 = .ok (.putfield 41, 3) ∧ decode cX12_begins 64 = .ok (.aload_n 0, 1) ∧ decode cX12_begins 65 = .ok (.iconst 0, 1) := by decide +kernel
theorem e_X12_begins_4 : decode cX12_begins 66 = .ok (.putfield 126, 3) ∧ decode cX12_begins 69 = .ok (.aload_n 0, 1) ∧ decode cX12_begins 70 = .ok (.iconst 0, 1) ∧ decode cX12_begins 71 = .ok (.putfield 166, 3) ∧ decode cX12_begins 74 = .ok (.aload_n 0, 1) ∧ decode cX12_begins 75 = .ok (.invokevirtual 169, 3) ∧ decode cX12_begins 78 = .ok (.iconst 1, 1) ∧ decode cX12_begins 79 = .ok (.ireturn, 1) := by decide +kernel
abbrev E_X12_begins_26 (G : Kg) (l1 l3 : Int) (σ : Kmem) (Q : Int → Kmem → Prop) : Prop := Ex G WM M_X12_begins 2 0 0 26 [(0, vA G 0), (1, vI l1), (3, vI l3)] [] σ Q
theorem S_X12_begins {G : Kg} {σ : Kmem} {Q : Int → Kmem → Prop} {l1 l2 : Int}  (h : (rI l1) ∧ ((l1 < 0 → Q 0 σ) ∧ (0 ≤ l1 → (rI (σ 0 10)) ∧ ((σ 0 10 < l1 → Q 0 σ) ∧ (l1 ≤ σ 0 10 → (rI l2) ∧ ((l1 ≤ l2 → ∀ m4 : Kmem, m4 = (kup σ 0 11 l1) → E_X12_begins_26 G l1 0 m4 Q) ∧ (l2 < l1 → Q 0 σ))))))) : Run G WM M_X12_begins 2 0 0 [vA G 0, vI l1, vI l2] σ Q := by
  refine Run.of (by decide +kernel) (by show (3 : Nat) ≤ 4; decide) ?_
  show Ex G WM M_X12_begins 2 0 0 0 [(0, vA G 0), (1, vI l1), (2, vI l2)] [] σ Q
  refine R_iload_n e_X12_begins_0.1 1 rfl ?_
  obtain ⟨q1, h⟩ := h
  refine R_if_lt 17 e_X12_begins_0.2.1 (by decide) q1  (fun q => ?_) (fun q => ?_)
  · replace h := h.1 q
    refine R_iconst e_X12_begins_0.2.2.2.2.2.2.2.2.2 ?_
    exact R_zreturn e_X12_begins_1.1 rfl (Or.inl rfl) h
  · replace h := h.2 q
    refine R_iload_n e_X12_begins_0.2.2.1 1 rfl ?_
    refine R_aload_n e_X12_begins_0.2.2.2.1 0 rfl ?_
    refine R_getI 12 10 10 e_X12_begins_0.2.2.2.2.1 f_X12_117 km_0 (fun _ _ => rfl) rfl ?_
    obtain ⟨q2, h⟩ := h
    refine R_icmp_gt 17 e_X12_begins_0.2.2.2.2.2.1 (by decide) q1 q2 (fun q => ?_) (fun q => ?_)
    · replace h := h.1 q
      refine R_iconst e_X12_begins_0.2.2.2.2.2.2.2.2.2 ?_
      exact R_zreturn e_X12_begins_1.1 rfl (Or.inl rfl) h
    · replace h := h.2 q
      refine R_iload_n e_X12_begins_0.2.2.2.2.2.2.1 1 rfl ?_
      refine R_iload_n e_X12_begins_0.2.2.2.2.2.2.2.1 2 rfl ?_
      obtain ⟨q3, h⟩ := h
      refine R_icmp_le 19 e_X12_begins_0.2.2.2.2.2.2.2.2.1 (by decide) q1 q3 (fun q => ?_) (fun q => ?_)
      · replace h := h.1 q
        refine R_aload_n e_X12_begins_1.2.1 0 rfl ?_
        refine R_iload_n e_X12_begins_1.2.2.1 1 rfl ?_
        refine R_putI 12 11 11 WM_ok e_X12_begins_1.2.2.2.1 f_X12_123 km_0 rfl rfl rfl ?_
        obtain ⟨m4, e5⟩ : ∃ z : Kmem, z = (kup σ 0 11 l1) := ⟨_, rfl⟩
        rw [← e5]
        replace h := h m4 e5
        refine R_iconst e_X12_begins_1.2.2.2.2.1 ?_
        refine R_istore_n (ls2 := [(3, vI 0), (0, vA G 0), (1, vI l1), (2, vI l2)]) e_X12_begins_1.2.2.2.2.2.1 (by decide) rfl ?_
        refine R_ls (ls2 := [(0, vA G 0), (1, vI l1), (3, vI 0)]) [1, 2, 0] rfl ?_
        exact h
      · replace h := h.2 q
        refine R_iconst e_X12_begins_0.2.2.2.2.2.2.2.2.2 ?_
        exact R_zreturn e_X12_begins_1.1 rfl (Or.inl rfl) h
theorem S_X12_begins_26 {G : Kg} {σ : Kmem} {Q : Int → Kmem → Prop} {l1 l2 l3 : Int}  (h : (rI l3) ∧ (rI l1) ∧ ((l1 ≤ l3 → ∀ m8 : Kmem, m8 = (kup σ 0 10 0) → ∀ m10 : Kmem, m10 = (kup m8 0 18 0) → ∀ m12 : Kmem, m12 = (kup m10 0 17 (-1)) → ∀ m14 : Kmem, m14 = (kup m12 0 14 0) → ∀ m16 : Kmem, m16 = (kup m14 0 19 0) → (tx0 m16) ∧ Q 1 (tA m16)) ∧ (l3 < l1 → (0 ≤ l3 ∧ l3 < 900) ∧ (0 ≤ l3 ∧ l3 < 900) ∧ ∀ m23 : Kmem, m23 = (kup σ 7 l3 (ki2b (σ 6 l3))) → E_X12_begins_26 G l1 (l3 + 1) m23 Q))) : E_X12_begins_26 G l1 l3 σ Q := by
  refine R_iload_n e_X12_begins_1.2.2.2.2.2.2.1 2 rfl ?_
  refine R_iload_n e_X12_begins_1.2.2.2.2.2.2.2.1 1 rfl ?_
  obtain ⟨q6, h⟩ := h
  obtain ⟨q7, h⟩ := h
  refine R_icmp_ge 49 e_X12_begins_1.2.2.2.2.2.2.2.2.1 (by decide) q6 q7 (fun q => ?_) (fun q => ?_)
  · replace h := h.1 q
    refine R_aload_n e_X12_begins_2.2.2.2.2.2.2.2.2.2 0 rfl ?_
    refine R_iconst e_X12_begins_3.1 ?_
    refine R_putI 12 10 10 WM_ok e_X12_begins_3.2.1 f_X12_117 km_0 rfl rfl rfl ?_
    obtain ⟨m8, e9⟩ : ∃ z : Kmem, z = (kup σ 0 10 0) := ⟨_, rfl⟩
    rw [← e9]
    replace h := h m8 e9
    refine R_aload_n e_X12_begins_3.2.2.1 0 rfl ?_
    refine R_iconst e_X12_begins_3.2.2.2.1 ?_
    refine R_putI 12 18 18 WM_ok e_X12_begins_3.2.2.2.2.1 f_X12_163 km_0 rfl rfl rfl ?_
    obtain ⟨m10, e11⟩ : ∃ z : Kmem, z = (kup m8 0 18 0) := ⟨_, rfl⟩
    rw [← e11]
    replace h := h m10 e11
    refine R_aload_n e_X12_begins_3.2.2.2.2.2.1 0 rfl ?_
    refine R_iconst e_X12_begins_3.2.2.2.2.2.2.1 ?_
    refine R_putI 12 17 17 WM_ok e_X12_begins_3.2.2.2.2.2.2.2.1 f_X12_41 km_0 rfl rfl rfl ?_
    obtain ⟨m12, e13⟩ : ∃ z : Kmem, z = (kup m10 0 17 (-1)) := ⟨_, rfl⟩
    rw [← e13]
    replace h := h m12 e13
    refine R_aload_n e_X12_begins_3.2.2.2.2.2.2.2.2.1 0 rfl ?_
    refine R_iconst e_X12_begins_3.2.2.2.2.2.2.2.2.2 ?_
    refine R_putI 12 14 14 WM_ok e_X12_begins_4.1 f_X12_126 km_0 rfl rfl rfl ?_
    obtain ⟨m14, e15⟩ : ∃ z : Kmem, z = (kup m12 0 14 0) := ⟨_, rfl⟩
    rw [← e15]
    replace h := h m14 e15
    refine R_aload_n e_X12_begins_4.2.1 0 rfl ?_
    refine R_iconst e_X12_begins_4.2.2.1 ?_
    refine R_putI 12 19 19 WM_ok e_X12_begins_4.2.2.2.1 f_X12_166 km_0 rfl rfl rfl ?_
    obtain ⟨m16, e17⟩ : ∃ z : Kmem, z = (kup m14 0 19 0) := ⟨_, rfl⟩
    rw [← e17]
    replace h := h m16 e17
    refine R_aload_n e_X12_begins_4.2.2.2.2.1 0 rfl ?_
    obtain ⟨q20, h⟩ := h
    refine R_callV (mc := 0) (ms := 0) (mc' := 0) (ms' := 0) (M' := M_X12_ahead) (d' := 1) (as := []) (st := []) 12 0 e_X12_begins_4.2.2.2.2.2.1 (kCVof m_X12_ahead l_X12_169) rfl (by decide) km_0 (by decide) (by decide) rfl rfl (by show (0 : Nat) ≤ 8; decide) ?_
    refine Run.mono (P_X12_ahead q20) (fun r s e => ?_)
    obtain ⟨e1, e2⟩ := e
    refine R_eqs (st2 := []) (σ2 := (tA m16)) (by rfl) e2 ?_
    refine R_iconst e_X12_begins_4.2.2.2.2.2.2.1 ?_
    exact R_zreturn e_X12_begins_4.2.2.2.2.2.2.2 rfl (Or.inr rfl) h
  · replace h := h.2 q
    refine R_aload_n e_X12_begins_1.2.2.2.2.2.2.2.2.2 0 rfl ?_
    refine R_getA 12 9 7 e_X12_begins_2.1 f_X12_34 km_0 (fun _ _ => rfl) rm_0_9 (by decide) ?_
    refine R_iload_n e_X12_begins_2.2.1 2 rfl ?_
    refine R_aload_n e_X12_begins_2.2.2.1 0 rfl ?_
    refine R_getA 12 8 6 e_X12_begins_2.2.2.2.1 f_X12_30 km_0 (fun _ _ => rfl) rm_0_8 (by decide) ?_
    refine R_iload_n e_X12_begins_2.2.2.2.2.1 2 rfl ?_
    obtain ⟨q21, h⟩ := h
    refine R_bald 900 e_X12_begins_2.2.2.2.2.2.1 kma_6 q21 ?_
    obtain ⟨q22, h⟩ := h
    refine R_bast 900 WM_ok e_X12_begins_2.2.2.2.2.2.2.1 kma_7 q22 ?_
    obtain ⟨m23, e24⟩ : ∃ z : Kmem, z = (kup σ 7 l3 (ki2b (σ 6 l3))) := ⟨_, rfl⟩
    rw [← e24]
    replace h := h m23 e24
    refine R_iinc (ls2 := [(3, vI (l3 + 1)), (0, vA G 0), (1, vI l1)]) e_X12_begins_2.2.2.2.2.2.2.2.1 2 rfl (by decide) rfl ?_
    refine R_goto 26 e_X12_begins_2.2.2.2.2.2.2.2.2.1 (by decide) ?_
    refine R_ls (ls2 := [(0, vA G 0), (1, vI l1), (3, vI (l3 + 1))]) [1, 2, 0] rfl ?_
    exact h
/-! KiteLandModel.wantSign(I)Z -/
theorem e_X12_wantSign_0 : decode cX12_wantSign 0 = .ok (.aload_n 0, 1) ∧ decode cX12_wantSign 1 = .ok (.iload_n 1, 1) ∧ decode cX12_wantSign 2 = .ok (.invokevirtual 172, 3) ∧ decode cX12_wantSign 5 = .ok (.ifCond .ne 9, 3) ∧ decode cX12_wantSign 8 = .ok (.aload_n 0, 1) ∧ decode cX12_wantSign 9 = .ok (.iconst 2, 1) ∧ decode cX12_wantSign 10 = .ok (.invokevirtual 175, 3) ∧ decode cX12_wantSign 13 = .ok (.ireturn, 1) ∧ decode cX12_wantSign 14 = .ok (.aload_n 0, 1) ∧ decode cX12_wantSign 15 = .ok (.invokevirtual 169, 3) := by decide +kernel
theorem e_X12_wantSign_1 : decode cX12_wantSign 18 = .ok (.iconst 1, 1) ∧ decode cX12_wantSign 19 = .ok (.ireturn, 1) := by decide +kernel
theorem S_X12_wantSign {G : Kg} {σ : Kmem} {Q : Int → Kmem → Prop} {l1 : Int}  (h : (tok σ ∧ rI (l1)) ∧ (((tSg σ (l1)) → (tx0 σ) ∧ Q 1 (tA σ)) ∧ (¬ (tSg σ (l1)) → (tok σ ∧ (0 : Int) ≤ σ 0 18 ∧ (σ 0 18 : Int) ≤ 9) ∧ Q 0 (tF σ (2))))) : Run G WM M_X12_wantSign 2 0 0 [vA G 0, vI l1] σ Q := by
  refine Run.of (by decide +kernel) (by show (2 : Nat) ≤ 2; decide) ?_
  show Ex G WM M_X12_wantSign 2 0 0 0 [(0, vA G 0), (1, vI l1)] [] σ Q
  refine R_aload_n e_X12_wantSign_0.1 0 rfl ?_
  refine R_iload_n e_X12_wantSign_0.2.1 1 rfl ?_
  obtain ⟨q3, h⟩ := h
  refine R_callV (mc := 0) (ms := 0) (mc' := 0) (ms' := 0) (M' := M_X12_isSign) (d' := 0) (as := [vI l1]) (st := []) 12 1 e_X12_wantSign_0.2.2.1 (kCVof m_X12_isSign l_X12_172) rfl (by decide) km_0 (by decide) (by decide) rfl rfl (by show (0 : Nat) ≤ 8; decide) ?_
  refine Run.mono (P_X12_isSign q3) (fun r s e => ?_)
  obtain ⟨e1, e2⟩ := e
  refine R_eqs (st2 := [vI (kb (tSg σ (l1)))]) (σ2 := σ) (by rw [e1]; rfl) e2 ?_
  refine R_if_ne 14 e_X12_wantSign_0.2.2.2.1 (by decide) (kb_r _) (fun q => ?_) (fun q => ?_)
  · replace h := h.1 (kb_t q)
    refine R_aload_n e_X12_wantSign_0.2.2.2.2.2.2.2.2.1 0 rfl ?_
    obtain ⟨q6, h⟩ := h
    refine R_callV (mc := 0) (ms := 0) (mc' := 0) (ms' := 0) (M' := M_X12_ahead) (d' := 1) (as := []) (st := []) 12 0 e_X12_wantSign_0.2.2.2.2.2.2.2.2.2 (kCVof m_X12_ahead l_X12_169) rfl (by decide) km_0 (by decide) (by decide) rfl rfl (by show (0 : Nat) ≤ 8; decide) ?_
    refine Run.mono (P_X12_ahead q6) (fun r s e => ?_)
    obtain ⟨e1, e2⟩ := e
    refine R_eqs (st2 := []) (σ2 := (tA σ)) (by rfl) e2 ?_
    refine R_iconst e_X12_wantSign_1.1 ?_
    exact R_zreturn e_X12_wantSign_1.2 rfl (Or.inr rfl) h
  · replace h := h.2 (kb_f q)
    refine R_aload_n e_X12_wantSign_0.2.2.2.2.1 0 rfl ?_
    refine R_iconst e_X12_wantSign_0.2.2.2.2.2.1 ?_
    obtain ⟨q9, h⟩ := h
    refine R_callV (mc := 0) (ms := 0) (mc' := 0) (ms' := 0) (M' := M_X12_fails) (d' := 0) (as := [vI 2]) (st := []) 12 1 e_X12_wantSign_0.2.2.2.2.2.2.1 (kCVof m_X12_fails l_X12_175) rfl (by decide) km_0 (by decide) (by decide) rfl rfl (by show (0 : Nat) ≤ 8; decide) ?_
    refine Run.mono (P_X12_fails q9) (fun r s e => ?_)
    obtain ⟨e1, e2⟩ := e
    refine R_eqs (st2 := [vI 0]) (σ2 := (tF σ (2))) (by rw [e1]; rfl) e2 ?_
    exact R_zreturn e_X12_wantSign_0.2.2.2.2.2.2.2.1 rfl (Or.inl rfl) h
/-! KiteLandModel.wantWord(Ljava/lang/String;I)Z -/
theorem e_X12_wantWord_0 : decode cX12_wantWord 0 = .ok (.aload_n 0, 1) ∧ decode cX12_wantWord 1 = .ok (.aload_n 1, 1) ∧ decode cX12_wantWord 2 = .ok (.invokevirtual 178, 3) ∧ decode cX12_wantWord 5 = .ok (.iload_n 2, 1) ∧ decode cX12_wantWord 6 = .ok (.if_icmp .eq 9, 3) ∧ decode cX12_wantWord 9 = .ok (.aload_n 0, 1) ∧ decode cX12_wantWord 10 = .ok (.iconst 2, 1) ∧ decode cX12_wantWord 11 = .ok (.invokevirtual 175, 3) ∧ decode cX12_wantWord 14 = .ok (.ireturn, 1) ∧ decode cX12_wantWord 15 = .ok (.aload_n 0, 1) := by decide +kernel
theorem e_X12_wantWord_1 : decode cX12_wantWord 16 = .ok (.invokevirtual 169, 3) ∧ decode cX12_wantWord 19 = .ok (.iconst 1, 1) ∧ decode cX12_wantWord 20 = .ok (.ireturn, 1) := by decide +kernel
theorem S_X12_wantWord {G : Kg} {σ : Kmem} {Q : Int → Kmem → Prop} {i : Nat} {si : String × Nat × String × List Int32} (hi : kStrs[i]? = some si) {l2 : Int}  (h : Run G WM M_X12_inWords 4 0 0 [vA G 0, vA G (-((10 + i : Nat) : Int))] σ (fun r1 s2 => (rI r1) ∧ (rI l2) ∧ ((r1 = l2 → (tx0 s2) ∧ Q 1 (tA s2)) ∧ (r1 ≠ l2 → (tok s2 ∧ (0 : Int) ≤ s2 0 18 ∧ (s2 0 18 : Int) ≤ 9) ∧ Q 0 (tF s2 (2)))))) : Run G WM M_X12_wantWord 5 0 0 [vA G 0, vA G (-((10 + i : Nat) : Int)), vI l2] σ Q := by
  refine Run.of (by decide +kernel) (by show (3 : Nat) ≤ 3; decide) ?_
  show Ex G WM M_X12_wantWord 5 0 0 0 [(0, vA G 0), (1, vA G (-((10 + i : Nat) : Int))), (2, vI l2)] [] σ Q
  refine R_aload_n e_X12_wantWord_0.1 0 rfl ?_
  refine R_aload_n e_X12_wantWord_0.2.1 1 rfl ?_
  refine R_callV (mc := 0) (ms := 0) (mc' := 0) (ms' := 0) (M' := M_X12_inWords) (d' := 4) (as := [vA G (-((10 + i : Nat) : Int))]) (st := []) 12 1 e_X12_wantWord_0.2.2.1 (kCVof m_X12_inWords l_X12_178) rfl (by decide) km_0 (by decide) (by decide) rfl rfl (by show (0 : Nat) ≤ 8; decide) ?_
  refine Run.mono h (fun r1 s2 h => ?_)
  refine R_eqs (st2 := [vI r1]) rfl rfl ?_
  refine R_iload_n e_X12_wantWord_0.2.2.2.1 2 rfl ?_
  obtain ⟨q3, h⟩ := h
  obtain ⟨q4, h⟩ := h
  refine R_icmp_eq 15 e_X12_wantWord_0.2.2.2.2.1 (by decide) q3 q4 (fun q => ?_) (fun q => ?_)
  · replace h := h.1 q
    refine R_aload_n e_X12_wantWord_0.2.2.2.2.2.2.2.2.2 0 rfl ?_
    obtain ⟨q7, h⟩ := h
    refine R_callV (mc := 0) (ms := 0) (mc' := 0) (ms' := 0) (M' := M_X12_ahead) (d' := 1) (as := []) (st := []) 12 0 e_X12_wantWord_1.1 (kCVof m_X12_ahead l_X12_169) rfl (by decide) km_0 (by decide) (by decide) rfl rfl (by show (0 : Nat) ≤ 8; decide) ?_
    refine Run.mono (P_X12_ahead q7) (fun r s e => ?_)
    obtain ⟨e1, e2⟩ := e
    refine R_eqs (st2 := []) (σ2 := (tA s2)) (by rfl) e2 ?_
    refine R_iconst e_X12_wantWord_1.2.1 ?_
    exact R_zreturn e_X12_wantWord_1.2.2 rfl (Or.inr rfl) h
  · replace h := h.2 q
    refine R_aload_n e_X12_wantWord_0.2.2.2.2.2.1 0 rfl ?_
    refine R_iconst e_X12_wantWord_0.2.2.2.2.2.2.1 ?_
    obtain ⟨q10, h⟩ := h
    refine R_callV (mc := 0) (ms := 0) (mc' := 0) (ms' := 0) (M' := M_X12_fails) (d' := 0) (as := [vI 2]) (st := []) 12 1 e_X12_wantWord_0.2.2.2.2.2.2.2.1 (kCVof m_X12_fails l_X12_175) rfl (by decide) km_0 (by decide) (by decide) rfl rfl (by show (0 : Nat) ≤ 8; decide) ?_
    refine Run.mono (P_X12_fails q10) (fun r s e => ?_)
    obtain ⟨e1, e2⟩ := e
    refine R_eqs (st2 := [vI 0]) (σ2 := (tF s2 (2))) (by rw [e1]; rfl) e2 ?_
    exact R_zreturn e_X12_wantWord_0.2.2.2.2.2.2.2.2.1 rfl (Or.inl rfl) h
/-! KiteLandModel.isName(Ljava/lang/String;)Z -/
theorem e_X12_isName_0 : decode cX12_isName 0 = .ok (.aload_n 0, 1) ∧ decode cX12_isName 1 = .ok (.getfield 138, 3) ∧ decode cX12_isName 4 = .ok (.iconst 2, 1) ∧ decode cX12_isName 5 = .ok (.if_icmp .ne 30, 3) ∧ decode cX12_isName 8 = .ok (.aload_n 0, 1) ∧ decode cX12_isName 9 = .ok (.getfield 126, 3) ∧ decode cX12_isName 12 = .ok (.aload_n 0, 1) ∧ decode cX12_isName 13 = .ok (.getfield 132, 3) ∧ decode cX12_isName 16 = .ok (.isub, 1) ∧ decode cX12_isName 17 = .ok (.bipush 8, 2) := by decide +kernel
theorem e_X12_isName_1 : decode cX12_isName 19 = .ok (.if_icmp .gt 16, 3) ∧ decode cX12_isName 22 = .ok (.aload_n 0, 1) ∧ decode cX12_isName 23 = .ok (.aload_n 1, 1) ∧ decode cX12_isName 24 = .ok (.invokevirtual 178, 3) ∧ decode cX12_isName 27 = .ok (.iconst (-1), 1) ∧ decode cX12_isName 28 = .ok (.if_icmp .ne 7, 3) ∧ decode cX12_isName 31 = .ok (.iconst 1, 1) ∧ decode cX12_isName 32 = .ok (.goto 4, 3) ∧ decode cX12_isName 35 = .ok (.iconst 0, 1) ∧ decode cX12_isName 36 = .ok (.ireturn, 1) := by decide +kernel
theorem S_X12_isName {G : Kg} {σ : Kmem} {Q : Int → Kmem → Prop} {i : Nat} {si : String × Nat × String × List Int32} (hi : kStrs[i]? = some si)  (h : (rI (σ 0 12)) ∧ ((σ 0 12 ≠ 2 → Q 0 σ) ∧ (σ 0 12 = 2 → (rI ((σ 0 14) - (σ 0 13))) ∧ ((8 < (σ 0 14) - (σ 0 13) → Q 0 σ) ∧ ((σ 0 14) - (σ 0 13) ≤ 8 → Run G WM M_X12_inWords 4 0 0 [vA G 0, vA G (-((10 + i : Nat) : Int))] σ (fun r3 s4 => (rI r3) ∧ ((r3 ≠ -1 → Q 0 s4) ∧ (r3 = -1 → Q 1 s4)))))))) : Run G WM M_X12_isName 5 0 0 [vA G 0, vA G (-((10 + i : Nat) : Int))] σ Q := by
  refine Run.of (by decide +kernel) (by show (2 : Nat) ≤ 2; decide) ?_
  show Ex G WM M_X12_isName 5 0 0 0 [(0, vA G 0), (1, vA G (-((10 + i : Nat) : Int)))] [] σ Q
  refine R_aload_n e_X12_isName_0.1 0 rfl ?_
  refine R_getI 12 12 12 e_X12_isName_0.2.1 f_X12_138 km_0 (fun _ _ => rfl) rfl ?_
  refine R_iconst e_X12_isName_0.2.2.1 ?_
  obtain ⟨q1, h⟩ := h
  refine R_icmp_ne 35 e_X12_isName_0.2.2.2.1 (by decide) q1 (by decide) (fun q => ?_) (fun q => ?_)
  · replace h := h.1 q
    refine R_iconst e_X12_isName_1.2.2.2.2.2.2.2.2.1 ?_
    exact R_zreturn e_X12_isName_1.2.2.2.2.2.2.2.2.2 rfl (Or.inl rfl) h
  · replace h := h.2 q
    refine R_aload_n e_X12_isName_0.2.2.2.2.1 0 rfl ?_
    refine R_getI 12 14 14 e_X12_isName_0.2.2.2.2.2.1 f_X12_126 km_0 (fun _ _ => rfl) rfl ?_
    refine R_aload_n e_X12_isName_0.2.2.2.2.2.2.1 0 rfl ?_
    refine R_getI 12 13 13 e_X12_isName_0.2.2.2.2.2.2.2.1 f_X12_132 km_0 (fun _ _ => rfl) rfl ?_
    refine R_isub e_X12_isName_0.2.2.2.2.2.2.2.2.1 ?_
    refine R_bipush e_X12_isName_0.2.2.2.2.2.2.2.2.2 (by decide) ?_
    obtain ⟨q2, h⟩ := h
    refine R_icmp_gt 35 e_X12_isName_1.1 (by decide) q2 (by decide) (fun q => ?_) (fun q => ?_)
    · replace h := h.1 q
      refine R_iconst e_X12_isName_1.2.2.2.2.2.2.2.2.1 ?_
      exact R_zreturn e_X12_isName_1.2.2.2.2.2.2.2.2.2 rfl (Or.inl rfl) h
    · replace h := h.2 q
      refine R_aload_n e_X12_isName_1.2.1 0 rfl ?_
      refine R_aload_n e_X12_isName_1.2.2.1 1 rfl ?_
      refine R_callV (mc := 0) (ms := 0) (mc' := 0) (ms' := 0) (M' := M_X12_inWords) (d' := 4) (as := [vA G (-((10 + i : Nat) : Int))]) (st := []) 12 1 e_X12_isName_1.2.2.2.1 (kCVof m_X12_inWords l_X12_178) rfl (by decide) km_0 (by decide) (by decide) rfl rfl (by show (0 : Nat) ≤ 8; decide) ?_
      refine Run.mono h (fun r3 s4 h => ?_)
      refine R_eqs (st2 := [vI r3]) rfl rfl ?_
      refine R_iconst e_X12_isName_1.2.2.2.2.1 ?_
      obtain ⟨q5, h⟩ := h
      refine R_icmp_ne 35 e_X12_isName_1.2.2.2.2.2.1 (by decide) q5 (by decide) (fun q => ?_) (fun q => ?_)
      · replace h := h.1 q
        refine R_iconst e_X12_isName_1.2.2.2.2.2.2.2.2.1 ?_
        exact R_zreturn e_X12_isName_1.2.2.2.2.2.2.2.2.2 rfl (Or.inl rfl) h
      · replace h := h.2 q
        refine R_iconst e_X12_isName_1.2.2.2.2.2.2.1 ?_
        refine R_goto 36 e_X12_isName_1.2.2.2.2.2.2.2.1 (by decide) ?_
        exact R_zreturn e_X12_isName_1.2.2.2.2.2.2.2.2.2 rfl (Or.inr rfl) h
