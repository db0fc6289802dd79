/-! KiteLandModel.blow(III)Z -/
theorem e_X12_blow_0 : decode cX12_blow 0 = .ok (.iload_n 1, 1) ∧ decode cX12_blow 1 = .ok (.invokestatic 340, 3) ∧ decode cX12_blow 4 = .ok (.ifCond .eq 27, 3) ∧ decode cX12_blow 7 = .ok (.iload_n 2, 1) ∧ decode cX12_blow 8 = .ok (.i2l, 1) ∧ decode cX12_blow 9 = .ok (.lconst 0, 1) ∧ decode cX12_blow 10 = .ok (.ldc2_w 413, 3) ∧ decode cX12_blow 13 = .ok (.invokestatic 393, 3) ∧ decode cX12_blow 16 = .ok (.ifCond .eq 15, 3) ∧ decode cX12_blow 19 = .ok (.iload_n 3, 1) := by decide +kernel
theorem e_X12_blow_1 : decode cX12_blow 20 = .ok (.i2l, 1) ∧ decode cX12_blow 21 = .ok (.lconst 0, 1) ∧ decode cX12_blow 22 = .ok (.ldc2_w 415, 3) ∧ decode cX12_blow 25 = .ok (.invokestatic 393, 3) ∧ decode cX12_blow 28 = .ok (.ifCond .ne 9, 3) ∧ decode cX12_blow 31 = .ok (.aload_n 0, 1) ∧ decode cX12_blow 32 = .ok (.iconst 1, 1) ∧ decode cX12_blow 33 = .ok (.invokevirtual 100, 3) ∧ decode cX12_blow 36 = .ok (.ireturn, 1) ∧ decode cX12_blow 37 = .ok (.aload_n 0, 1) := by decide +kernel
theorem e_X12_blow_2 : decode cX12_blow 38 = .ok (.getfield 7, 3) ∧ decode cX12_blow 41 = .ok (.bipush 10, 2) ∧ decode cX12_blow 43 = .ok (.iconst 2, 1) ∧ decode cX12_blow 44 = .ok (.iload_n 1, 1) ∧ decode cX12_blow 45 = .ok (.imul, 1) ∧ decode cX12_blow 46 = .ok (.iadd, 1) ∧ decode cX12_blow 47 = .ok (.iload_n 2, 1) ∧ decode cX12_blow 48 = .ok (.iastore, 1) ∧ decode cX12_blow 49 = .ok (.aload_n 0, 1) ∧ decode cX12_blow 50 = .ok (.getfield 7, 3) := by decide +kernel
theorem e_X12_blow_3 : decode cX12_blow 53 = .ok (.bipush 10, 2) ∧ decode cX12_blow 55 = .ok (.iconst 2, 1) ∧ decode cX12_blow 56 = .ok (.iload_n 1, 1) ∧ decode cX12_blow 57 = .ok (.imul, 1) ∧ decode cX12_blow 58 = .ok (.iadd, 1) ∧ decode cX12_blow 59 = .ok (.iconst 1, 1) ∧ decode cX12_blow 60 = .ok (.iadd, 1) ∧ decode cX12_blow 61 = .ok (.iload_n 3, 1) ∧ decode cX12_blow 62 = .ok (.iastore, 1) ∧ decode cX12_blow 63 = .ok (.aload_n 0, 1) := by decide +kernel
theorem e_X12_blow_4 : decode cX12_blow 64 = .ok (.iconst 0, 1) ∧ decode cX12_blow 65 = .ok (.invokevirtual 100, 3) ∧ decode cX12_blow 68 = .ok (.ireturn, 1) := by decide +kernel
theorem S_X12_blow {G : Kg} {σ : Kmem} {Q : Int → Kmem → Prop} {l1 l2 l3 : Int}  (h : (rI (l1)) ∧ ((¬ (sHr (l1)) → (rI (1)) ∧ Q (kb ((1 : Int) = 0)) (kup σ 0 2 (1))) ∧ ((sHr (l1)) → (rI l2) ∧ (rL l2 ∧ rL 0 ∧ rL 7) ∧ ((¬ ((0 : Int) ≤ l2 ∧ (l2 : Int) ≤ 7) → (rI (1)) ∧ Q (kb ((1 : Int) = 0)) (kup σ 0 2 (1))) ∧ (((0 : Int) ≤ l2 ∧ (l2 : Int) ≤ 7) → (rI l3) ∧ (rL l3 ∧ rL 0 ∧ rL 3) ∧ ((((0 : Int) ≤ l3 ∧ (l3 : Int) ≤ 3) → (0 ≤ 10 + (2 * l1) ∧ 10 + (2 * l1) < 3598) ∧ (0 ≤ (10 + (2 * l1)) + 1 ∧ (10 + (2 * l1)) + 1 < 3598) ∧ (rI (0)) ∧ Q (kb ((0 : Int) = 0)) (kup (kup (kup σ 1 (10 + (2 * l1)) l2) 1 ((10 + (2 * l1)) + 1) l3) 0 2 (0))) ∧ (¬ ((0 : Int) ≤ l3 ∧ (l3 : Int) ≤ 3) → (rI (1)) ∧ Q (kb ((1 : Int) = 0)) (kup σ 0 2 (1))))))))) : Run G WM M_X12_blow 1 0 0 [vA G 0, vI l1, vI l2, vI l3] σ Q := by
  refine Run.of (by decide +kernel) (by show (4 : Nat) ≤ 4; decide) ?_
  show Ex G WM M_X12_blow 1 0 0 0 [(0, vA G 0), (1, vI l1), (2, vI l2), (3, vI l3)] [] σ Q
  refine R_iload_n e_X12_blow_0.1 1 rfl ?_
  obtain ⟨q3, h⟩ := h
  refine R_callS (mc := 0) (ms := 0) (mc' := 0) (ms' := 0) (M' := M_X12_isHour) (d' := 0) (as := [vI l1]) (st := []) 1 e_X12_blow_0.2.1 (kCSof m_X12_isHour l_X12_340) (by decide) (by decide) rfl rfl (by show (0 : Nat) ≤ 8; decide) ?_
  refine Run.mono (P_X12_isHour q3) (fun rr ss e => ?_)
  obtain ⟨e1, e2⟩ := e
  refine R_eqs (st2 := [vI (kb (sHr (l1)))]) (σ2 := σ) (by rw [e1]; rfl) e2 ?_
  refine R_if_eq 31 e_X12_blow_0.2.2.1 (by decide) (kb_r _) (fun q => ?_) (fun q => ?_)
  · replace h := h.1 (kb_f q)
    refine R_aload_n e_X12_blow_1.2.2.2.2.2.1 0 rfl ?_
    refine R_iconst e_X12_blow_1.2.2.2.2.2.2.1 ?_
    obtain ⟨q6, h⟩ := h
    refine R_callV (mc := 0) (ms := 0) (mc' := 0) (ms' := 0) (M' := M_X12_is) (d' := 0) (as := [vI 1]) (st := []) 12 1 e_X12_blow_1.2.2.2.2.2.2.2.1 (kCVof m_X12_is l_X12_100) rfl (by decide) km_0 (by decide) (by decide) rfl rfl (by show (0 : Nat) ≤ 8; decide) ?_
    refine Run.mono (P_X12_is q6) (fun rr ss e => ?_)
    obtain ⟨e1, e2⟩ := e
    refine R_eqs (st2 := [vI (kb ((1 : Int) = 0))]) (σ2 := (kup σ 0 2 (1))) (by rw [e1]; rfl) e2 ?_
    exact R_zreturn e_X12_blow_1.2.2.2.2.2.2.2.2.1 rfl (kb_01 _) h
  · replace h := h.2 (kb_t q)
    refine R_iload_n e_X12_blow_0.2.2.2.1 2 rfl ?_
    obtain ⟨q7, h⟩ := h
    refine R_i2l e_X12_blow_0.2.2.2.2.1 q7 ?_
    refine R_lconst 0 e_X12_blow_0.2.2.2.2.2.1 (by decide) ?_
    refine R_ldc2 (7) k_X12_413 e_X12_blow_0.2.2.2.2.2.2.1 ?_
    obtain ⟨q10, h⟩ := h
    refine R_callS (mc := 0) (ms := 0) (mc' := 0) (ms' := 0) (M' := M_X12_isFrom) (d' := 0) (as := [vL l2, vL 0, vL 7]) (st := []) 3 e_X12_blow_0.2.2.2.2.2.2.2.1 (kCSof m_X12_isFrom l_X12_393) (by decide) (by decide) rfl rfl (by show (0 : Nat) ≤ 8; decide) ?_
    refine Run.mono (P_X12_isFrom q10) (fun rr ss e => ?_)
    obtain ⟨e1, e2⟩ := e
    refine R_eqs (st2 := [vI (kb ((0 : Int) ≤ l2 ∧ (l2 : Int) ≤ 7))]) (σ2 := σ) (by rw [e1]; rfl) e2 ?_
    refine R_if_eq 31 e_X12_blow_0.2.2.2.2.2.2.2.2.1 (by decide) (kb_r _) (fun q => ?_) (fun q => ?_)
    · replace h := h.1 (kb_f q)
      refine R_aload_n e_X12_blow_1.2.2.2.2.2.1 0 rfl ?_
      refine R_iconst e_X12_blow_1.2.2.2.2.2.2.1 ?_
      obtain ⟨q13, h⟩ := h
      refine R_callV (mc := 0) (ms := 0) (mc' := 0) (ms' := 0) (M' := M_X12_is) (d' := 0) (as := [vI 1]) (st := []) 12 1 e_X12_blow_1.2.2.2.2.2.2.2.1 (kCVof m_X12_is l_X12_100) rfl (by decide) km_0 (by decide) (by decide) rfl rfl (by show (0 : Nat) ≤ 8; decide) ?_
      refine Run.mono (P_X12_is q13) (fun rr ss e => ?_)
      obtain ⟨e1, e2⟩ := e
      refine R_eqs (st2 := [vI (kb ((1 : Int) = 0))]) (σ2 := (kup σ 0 2 (1))) (by rw [e1]; rfl) e2 ?_
      exact R_zreturn e_X12_blow_1.2.2.2.2.2.2.2.2.1 rfl (kb_01 _) h
    · replace h := h.2 (kb_t q)
      refine R_iload_n e_X12_blow_0.2.2.2.2.2.2.2.2.2 3 rfl ?_
      obtain ⟨q14, h⟩ := h
      refine R_i2l e_X12_blow_1.1 q14 ?_
      refine R_lconst 0 e_X12_blow_1.2.1 (by decide) ?_
      refine R_ldc2 (3) k_X12_415 e_X12_blow_1.2.2.1 ?_
      obtain ⟨q17, h⟩ := h
      refine R_callS (mc := 0) (ms := 0) (mc' := 0) (ms' := 0) (M' := M_X12_isFrom) (d' := 0) (as := [vL l3, vL 0, vL 3]) (st := []) 3 e_X12_blow_1.2.2.2.1 (kCSof m_X12_isFrom l_X12_393) (by decide) (by decide) rfl rfl (by show (0 : Nat) ≤ 8; decide) ?_
      refine Run.mono (P_X12_isFrom q17) (fun rr ss e => ?_)
      obtain ⟨e1, e2⟩ := e
      refine R_eqs (st2 := [vI (kb ((0 : Int) ≤ l3 ∧ (l3 : Int) ≤ 3))]) (σ2 := σ) (by rw [e1]; rfl) e2 ?_
      refine R_if_ne 37 e_X12_blow_1.2.2.2.2.1 (by decide) (kb_r _) (fun q => ?_) (fun q => ?_)
      · replace h := h.1 (kb_t q)
        refine R_aload_n e_X12_blow_1.2.2.2.2.2.2.2.2.2 0 rfl ?_
        refine R_getA 12 0 1 e_X12_blow_2.1 f_X12_7 km_0 (fun _ _ => rfl) rm_0_0 (by decide) ?_
        refine R_bipush e_X12_blow_2.2.1 (by decide) ?_
        refine R_iconst e_X12_blow_2.2.2.1 ?_
        refine R_iload_n e_X12_blow_2.2.2.2.1 1 rfl ?_
        refine R_imul e_X12_blow_2.2.2.2.2.1 ?_
        refine R_iadd e_X12_blow_2.2.2.2.2.2.1 ?_
        refine R_iload_n e_X12_blow_2.2.2.2.2.2.2.1 2 rfl ?_
        obtain ⟨q18, h⟩ := h
        refine R_iast 3598 WM_ok e_X12_blow_2.2.2.2.2.2.2.2.1 kma_1 q18 ?_
        refine R_aload_n e_X12_blow_2.2.2.2.2.2.2.2.2.1 0 rfl ?_
        refine R_getA 12 0 1 e_X12_blow_2.2.2.2.2.2.2.2.2.2 f_X12_7 km_0 (fun _ _ => rfl) rm_0_0 (by decide) ?_
        refine R_bipush e_X12_blow_3.1 (by decide) ?_
        refine R_iconst e_X12_blow_3.2.1 ?_
        refine R_iload_n e_X12_blow_3.2.2.1 1 rfl ?_
        refine R_imul e_X12_blow_3.2.2.2.1 ?_
        refine R_iadd e_X12_blow_3.2.2.2.2.1 ?_
        refine R_iconst e_X12_blow_3.2.2.2.2.2.1 ?_
        refine R_iadd e_X12_blow_3.2.2.2.2.2.2.1 ?_
        refine R_iload_n e_X12_blow_3.2.2.2.2.2.2.2.1 3 rfl ?_
        obtain ⟨q19, h⟩ := h
        refine R_iast 3598 WM_ok e_X12_blow_3.2.2.2.2.2.2.2.2.1 kma_1 q19 ?_
        refine R_aload_n e_X12_blow_3.2.2.2.2.2.2.2.2.2 0 rfl ?_
        refine R_iconst e_X12_blow_4.1 ?_
        obtain ⟨q22, h⟩ := h
        refine R_callV (mc := 0) (ms := 0) (mc' := 0) (ms' := 0) (M' := M_X12_is) (d' := 0) (as := [vI 0]) (st := []) 12 1 e_X12_blow_4.2.1 (kCVof m_X12_is l_X12_100) rfl (by decide) km_0 (by decide) (by decide) rfl rfl (by show (0 : Nat) ≤ 8; decide) ?_
        refine Run.mono (P_X12_is q22) (fun rr ss e => ?_)
        obtain ⟨e1, e2⟩ := e
        refine R_eqs (st2 := [vI (kb ((0 : Int) = 0))]) (σ2 := (kup (kup (kup σ 1 (10 + (2 * l1)) l2) 1 ((10 + (2 * l1)) + 1) l3) 0 2 (0))) (by rw [e1]; rfl) e2 ?_
        exact R_zreturn e_X12_blow_4.2.2 rfl (kb_01 _) h
      · replace h := h.2 (kb_f q)
        refine R_aload_n e_X12_blow_1.2.2.2.2.2.1 0 rfl ?_
        refine R_iconst e_X12_blow_1.2.2.2.2.2.2.1 ?_
        obtain ⟨q25, h⟩ := h
        refine R_callV (mc := 0) (ms := 0) (mc' := 0) (ms' := 0) (M' := M_X12_is) (d' := 0) (as := [vI 1]) (st := []) 12 1 e_X12_blow_1.2.2.2.2.2.2.2.1 (kCVof m_X12_is l_X12_100) rfl (by decide) km_0 (by decide) (by decide) rfl rfl (by show (0 : Nat) ≤ 8; decide) ?_
        refine Run.mono (P_X12_is q25) (fun rr ss e => ?_)
        obtain ⟨e1, e2⟩ := e
        refine R_eqs (st2 := [vI (kb ((1 : Int) = 0))]) (σ2 := (kup σ 0 2 (1))) (by rw [e1]; rfl) e2 ?_
        exact R_zreturn e_X12_blow_1.2.2.2.2.2.2.2.2.1 rfl (kb_01 _) h
/-! KiteLandModel.rule(I)Z -/
theorem e_X12_rule_0 : decode cX12_rule 0 = .ok (.iload_n 1, 1) ∧ decode cX12_rule 1 = .ok (.i2l, 1) ∧ decode cX12_rule 2 = .ok (.lconst 0, 1) ∧ decode cX12_rule 3 = .ok (.ldc2_w 417, 3) ∧ decode cX12_rule 6 = .ok (.invokestatic 393, 3) ∧ decode cX12_rule 9 = .ok (.ifCond .ne 9, 3) ∧ decode cX12_rule 12 = .ok (.aload_n 0, 1) ∧ decode cX12_rule 13 = .ok (.iconst 1, 1) ∧ decode cX12_rule 14 = .ok (.invokevirtual 100, 3) ∧ decode cX12_rule 17 = .ok (.ireturn, 1) := by decide +kernel
theorem e_X12_rule_1 : decode cX12_rule 18 = .ok (.aload_n 0, 1) ∧ decode cX12_rule 19 = .ok (.getfield 7, 3) ∧ decode cX12_rule 22 = .ok (.bipush 6, 2) ∧ decode cX12_rule 24 = .ok (.iload_n 1, 1) ∧ decode cX12_rule 25 = .ok (.iastore, 1) ∧ decode cX12_rule 26 = .ok (.aload_n 0, 1) ∧ decode cX12_rule 27 = .ok (.iconst 0, 1) ∧ decode cX12_rule 28 = .ok (.invokevirtual 100, 3) ∧ decode cX12_rule 31 = .ok (.ireturn, 1) := by decide +kernel
theorem S_X12_rule {G : Kg} {σ : Kmem} {Q : Int → Kmem → Prop} {l1 : Int}  (h : (rI l1) ∧ (rL l1 ∧ rL 0 ∧ rL 2) ∧ ((((0 : Int) ≤ l1 ∧ (l1 : Int) ≤ 2) → (rI (0)) ∧ Q (kb ((0 : Int) = 0)) (kup (kup σ 1 6 l1) 0 2 (0))) ∧ (¬ ((0 : Int) ≤ l1 ∧ (l1 : Int) ≤ 2) → (rI (1)) ∧ Q (kb ((1 : Int) = 0)) (kup σ 0 2 (1))))) : Run G WM M_X12_rule 1 0 0 [vA G 0, vI l1] σ Q := by
  refine Run.of (by decide +kernel) (by show (2 : Nat) ≤ 2; decide) ?_
  show Ex G WM M_X12_rule 1 0 0 0 [(0, vA G 0), (1, vI l1)] [] σ Q
  refine R_iload_n e_X12_rule_0.1 1 rfl ?_
  obtain ⟨q1, h⟩ := h
  refine R_i2l e_X12_rule_0.2.1 q1 ?_
  refine R_lconst 0 e_X12_rule_0.2.2.1 (by decide) ?_
  refine R_ldc2 (2) k_X12_417 e_X12_rule_0.2.2.2.1 ?_
  obtain ⟨q4, h⟩ := h
  refine R_callS (mc := 0) (ms := 0) (mc' := 0) (ms' := 0) (M' := M_X12_isFrom) (d' := 0) (as := [vL l1, vL 0, vL 2]) (st := []) 3 e_X12_rule_0.2.2.2.2.1 (kCSof m_X12_isFrom l_X12_393) (by decide) (by decide) rfl rfl (by show (0 : Nat) ≤ 8; decide) ?_
  refine Run.mono (P_X12_isFrom q4) (fun rr ss e => ?_)
  obtain ⟨e1, e2⟩ := e
  refine R_eqs (st2 := [vI (kb ((0 : Int) ≤ l1 ∧ (l1 : Int) ≤ 2))]) (σ2 := σ) (by rw [e1]; rfl) e2 ?_
  refine R_if_ne 18 e_X12_rule_0.2.2.2.2.2.1 (by decide) (kb_r _) (fun q => ?_) (fun q => ?_)
  · replace h := h.1 (kb_t q)
    refine R_aload_n e_X12_rule_1.1 0 rfl ?_
    refine R_getA 12 0 1 e_X12_rule_1.2.1 f_X12_7 km_0 (fun _ _ => rfl) rm_0_0 (by decide) ?_
    refine R_bipush e_X12_rule_1.2.2.1 (by decide) ?_
    refine R_iload_n e_X12_rule_1.2.2.2.1 1 rfl ?_
    refine R_iast 3598 WM_ok e_X12_rule_1.2.2.2.2.1 kma_1 (by decide) ?_
    refine R_aload_n e_X12_rule_1.2.2.2.2.2.1 0 rfl ?_
    refine R_iconst e_X12_rule_1.2.2.2.2.2.2.1 ?_
    obtain ⟨q7, h⟩ := h
    refine R_callV (mc := 0) (ms := 0) (mc' := 0) (ms' := 0) (M' := M_X12_is) (d' := 0) (as := [vI 0]) (st := []) 12 1 e_X12_rule_1.2.2.2.2.2.2.2.1 (kCVof m_X12_is l_X12_100) rfl (by decide) km_0 (by decide) (by decide) rfl rfl (by show (0 : Nat) ≤ 8; decide) ?_
    refine Run.mono (P_X12_is q7) (fun rr ss e => ?_)
    obtain ⟨e1, e2⟩ := e
    refine R_eqs (st2 := [vI (kb ((0 : Int) = 0))]) (σ2 := (kup (kup σ 1 6 l1) 0 2 (0))) (by rw [e1]; rfl) e2 ?_
    exact R_zreturn e_X12_rule_1.2.2.2.2.2.2.2.2 rfl (kb_01 _) h
  · replace h := h.2 (kb_f q)
    refine R_aload_n e_X12_rule_0.2.2.2.2.2.2.1 0 rfl ?_
    refine R_iconst e_X12_rule_0.2.2.2.2.2.2.2.1 ?_
    obtain ⟨q10, h⟩ := h
    refine R_callV (mc := 0) (ms := 0) (mc' := 0) (ms' := 0) (M' := M_X12_is) (d' := 0) (as := [vI 1]) (st := []) 12 1 e_X12_rule_0.2.2.2.2.2.2.2.2.1 (kCVof m_X12_is l_X12_100) rfl (by decide) km_0 (by decide) (by decide) rfl rfl (by show (0 : Nat) ≤ 8; decide) ?_
    refine Run.mono (P_X12_is q10) (fun rr ss e => ?_)
    obtain ⟨e1, e2⟩ := e
    refine R_eqs (st2 := [vI (kb ((1 : Int) = 0))]) (σ2 := (kup σ 0 2 (1))) (by rw [e1]; rfl) e2 ?_
    exact R_zreturn e_X12_rule_0.2.2.2.2.2.2.2.2.2 rfl (kb_01 _) h
/-! KiteLandModel.lease(II)Z -/
theorem e_X12_lease_0 : decode cX12_lease 0 = .ok (.aload_n 0, 1) ∧ decode cX12_lease 1 = .ok (.iload_n 1, 1) ∧ decode cX12_lease 2 = .ok (.invokevirtual 349, 3) ∧ decode cX12_lease 5 = .ok (.ifCond .eq 11, 3) ∧ decode cX12_lease 8 = .ok (.aload_n 0, 1) ∧ decode cX12_lease 9 = .ok (.iload_n 2, 1) ∧ decode cX12_lease 10 = .ok (.invokevirtual 343, 3) ∧ decode cX12_lease 13 = .ok (.ifCond .ne 9, 3) ∧ decode cX12_lease 16 = .ok (.aload_n 0, 1) ∧ decode cX12_lease 17 = .ok (.iconst 1, 1) := by decide +kernel
theorem e_X12_lease_1 : decode cX12_lease 18 = .ok (.invokevirtual 100, 3) ∧ decode cX12_lease 21 = .ok (.ireturn, 1) ∧ decode cX12_lease 22 = .ok (.aload_n 0, 1) ∧ decode cX12_lease 23 = .ok (.getfield 7, 3) ∧ decode cX12_lease 26 = .ok (.iload_n 1, 1) ∧ decode cX12_lease 27 = .ok (.invokestatic 352, 3) ∧ decode cX12_lease 30 = .ok (.iconst 2, 1) ∧ decode cX12_lease 31 = .ok (.iadd, 1) ∧ decode cX12_lease 32 = .ok (.iaload, 1) ∧ decode cX12_lease 33 = .ok (.iload_n 2, 1) := by decide +kernel
theorem e_X12_lease_2 : decode cX12_lease 34 = .ok (.if_icmp .ne 10, 3) ∧ decode cX12_lease 37 = .ok (.aload_n 0, 1) ∧ decode cX12_lease 38 = .ok (.bipush 7, 2) ∧ decode cX12_lease 40 = .ok (.invokevirtual 100, 3) ∧ decode cX12_lease 43 = .ok (.ireturn, 1) ∧ decode cX12_lease 44 = .ok (.aload_n 0, 1) ∧ decode cX12_lease 45 = .ok (.getfield 7, 3) ∧ decode cX12_lease 48 = .ok (.iload_n 1, 1) ∧ decode cX12_lease 49 = .ok (.invokestatic 352, 3) ∧ decode cX12_lease 52 = .ok (.iconst 2, 1) := by decide +kernel
theorem e_X12_lease_3 : decode cX12_lease 53 = .ok (.iadd, 1) ∧ decode cX12_lease 54 = .ok (.iload_n 2, 1) ∧ decode cX12_lease 55 = .ok (.iastore, 1) ∧ decode cX12_lease 56 = .ok (.aload_n 0, 1) ∧ decode cX12_lease 57 = .ok (.iconst 0, 1) ∧ decode cX12_lease 58 = .ok (.invokevirtual 100, 3) ∧ decode cX12_lease 61 = .ok (.ireturn, 1) := by decide +kernel
theorem S_X12_lease {G : Kg} {σ : Kmem} {Q : Int → Kmem → Prop} {l1 l2 : Int}  (h : (rI (l1) ∧ wf (σ 1)) ∧ ((¬ (0 ≤ l1 ∧ (l1 : Int) < (σ 1) 4) → (rI (1)) ∧ Q (kb ((1 : Int) = 0)) (kup σ 0 2 (1))) ∧ ((0 ≤ l1 ∧ (l1 : Int) < (σ 1) 4) → (rI l2 ∧ wf (σ 1)) ∧ (((sKt (σ 1) (l2)) → (0 ≤ (120 + (5 * l1)) + 2 ∧ (120 + (5 * l1)) + 2 < 3598) ∧ (rI (σ 1 ((120 + (5 * l1)) + 2))) ∧ (rI l2) ∧ ((σ 1 ((120 + (5 * l1)) + 2) ≠ l2 → (0 ≤ (120 + (5 * l1)) + 2 ∧ (120 + (5 * l1)) + 2 < 3598) ∧ (rI (0)) ∧ Q (kb ((0 : Int) = 0)) (kup (kup σ 1 ((120 + (5 * l1)) + 2) l2) 0 2 (0))) ∧ (σ 1 ((120 + (5 * l1)) + 2) = l2 → (rI (7)) ∧ Q (kb ((7 : Int) = 0)) (kup σ 0 2 (7))))) ∧ (¬ (sKt (σ 1) (l2)) → (rI (1)) ∧ Q (kb ((1 : Int) = 0)) (kup σ 0 2 (1))))))) : Run G WM M_X12_lease 1 0 0 [vA G 0, vI l1, vI l2] σ Q := by
  refine Run.of (by decide +kernel) (by show (3 : Nat) ≤ 3; decide) ?_
  show Ex G WM M_X12_lease 1 0 0 0 [(0, vA G 0), (1, vI l1), (2, vI l2)] [] σ Q
  refine R_aload_n e_X12_lease_0.1 0 rfl ?_
  refine R_iload_n e_X12_lease_0.2.1 1 rfl ?_
  obtain ⟨q3, h⟩ := h
  refine R_callV (mc := 0) (ms := 0) (mc' := 0) (ms' := 0) (M' := M_X12_isTenant) (d' := 0) (as := [vI l1]) (st := []) 12 1 e_X12_lease_0.2.2.1 (kCVof m_X12_isTenant l_X12_349) rfl (by decide) km_0 (by decide) (by decide) rfl rfl (by show (0 : Nat) ≤ 8; decide) ?_
  refine Run.mono (P_X12_isTenant q3) (fun rr ss e => ?_)
  obtain ⟨e1, e2⟩ := e
  refine R_eqs (st2 := [vI (kb (0 ≤ l1 ∧ (l1 : Int) < (σ 1) 4))]) (σ2 := σ) (by rw [e1]; rfl) e2 ?_
  refine R_if_eq 16 e_X12_lease_0.2.2.2.1 (by decide) (kb_r _) (fun q => ?_) (fun q => ?_)
  · replace h := h.1 (kb_f q)
    refine R_aload_n e_X12_lease_0.2.2.2.2.2.2.2.2.1 0 rfl ?_
    refine R_iconst e_X12_lease_0.2.2.2.2.2.2.2.2.2 ?_
    obtain ⟨q6, h⟩ := h
    refine R_callV (mc := 0) (ms := 0) (mc' := 0) (ms' := 0) (M' := M_X12_is) (d' := 0) (as := [vI 1]) (st := []) 12 1 e_X12_lease_1.1 (kCVof m_X12_is l_X12_100) rfl (by decide) km_0 (by decide) (by decide) rfl rfl (by show (0 : Nat) ≤ 8; decide) ?_
    refine Run.mono (P_X12_is q6) (fun rr ss e => ?_)
    obtain ⟨e1, e2⟩ := e
    refine R_eqs (st2 := [vI (kb ((1 : Int) = 0))]) (σ2 := (kup σ 0 2 (1))) (by rw [e1]; rfl) e2 ?_
    exact R_zreturn e_X12_lease_1.2.1 rfl (kb_01 _) h
  · replace h := h.2 (kb_t q)
    refine R_aload_n e_X12_lease_0.2.2.2.2.1 0 rfl ?_
    refine R_iload_n e_X12_lease_0.2.2.2.2.2.1 2 rfl ?_
    obtain ⟨q9, h⟩ := h
    refine R_callV (mc := 0) (ms := 0) (mc' := 0) (ms' := 0) (M' := M_X12_isKite) (d' := 0) (as := [vI l2]) (st := []) 12 1 e_X12_lease_0.2.2.2.2.2.2.1 (kCVof m_X12_isKite l_X12_343) rfl (by decide) km_0 (by decide) (by decide) rfl rfl (by show (0 : Nat) ≤ 8; decide) ?_
    refine Run.mono (P_X12_isKite q9) (fun rr ss e => ?_)
    obtain ⟨e1, e2⟩ := e
    refine R_eqs (st2 := [vI (kb (sKt (σ 1) (l2)))]) (σ2 := σ) (by rw [e1]; rfl) e2 ?_
    refine R_if_ne 22 e_X12_lease_0.2.2.2.2.2.2.2.1 (by decide) (kb_r _) (fun q => ?_) (fun q => ?_)
    · replace h := h.1 (kb_t q)
      refine R_aload_n e_X12_lease_1.2.2.1 0 rfl ?_
      refine R_getA 12 0 1 e_X12_lease_1.2.2.2.1 f_X12_7 km_0 (fun _ _ => rfl) rm_0_0 (by decide) ?_
      refine R_iload_n e_X12_lease_1.2.2.2.2.1 1 rfl ?_
      refine R_callS (mc := 0) (ms := 0) (mc' := 0) (ms' := 0) (M' := M_X12_tenantRow) (d' := 0) (as := [vI l1]) (st := [vA G 1]) 1 e_X12_lease_1.2.2.2.2.2.1 (kCSof m_X12_tenantRow l_X12_352) (by decide) (by decide) rfl rfl (by show (1 : Nat) ≤ 8; decide) ?_
      refine S_X12_tenantRow ?_
      refine R_eqs (st2 := [vI (120 + (5 * l1)), vA G 1]) (σ2 := σ) rfl rfl ?_
      refine R_iconst e_X12_lease_1.2.2.2.2.2.2.1 ?_
      refine R_iadd e_X12_lease_1.2.2.2.2.2.2.2.1 ?_
      obtain ⟨q12, h⟩ := h
      refine R_iald 3598 e_X12_lease_1.2.2.2.2.2.2.2.2.1 kma_1 q12 ?_
      refine R_iload_n e_X12_lease_1.2.2.2.2.2.2.2.2.2 2 rfl ?_
      obtain ⟨q13, h⟩ := h
      obtain ⟨q14, h⟩ := h
      refine R_icmp_ne 44 e_X12_lease_2.1 (by decide) q13 q14 (fun q => ?_) (fun q => ?_)
      · replace h := h.1 q
        refine R_aload_n e_X12_lease_2.2.2.2.2.2.1 0 rfl ?_
        refine R_getA 12 0 1 e_X12_lease_2.2.2.2.2.2.2.1 f_X12_7 km_0 (fun _ _ => rfl) rm_0_0 (by decide) ?_
        refine R_iload_n e_X12_lease_2.2.2.2.2.2.2.2.1 1 rfl ?_
        refine R_callS (mc := 0) (ms := 0) (mc' := 0) (ms' := 0) (M' := M_X12_tenantRow) (d' := 0) (as := [vI l1]) (st := [vA G 1]) 1 e_X12_lease_2.2.2.2.2.2.2.2.2.1 (kCSof m_X12_tenantRow l_X12_352) (by decide) (by decide) rfl rfl (by show (1 : Nat) ≤ 8; decide) ?_
        refine S_X12_tenantRow ?_
        refine R_eqs (st2 := [vI (120 + (5 * l1)), vA G 1]) (σ2 := σ) rfl rfl ?_
        refine R_iconst e_X12_lease_2.2.2.2.2.2.2.2.2.2 ?_
        refine R_iadd e_X12_lease_3.1 ?_
        refine R_iload_n e_X12_lease_3.2.1 2 rfl ?_
        obtain ⟨q17, h⟩ := h
        refine R_iast 3598 WM_ok e_X12_lease_3.2.2.1 kma_1 q17 ?_
        refine R_aload_n e_X12_lease_3.2.2.2.1 0 rfl ?_
        refine R_iconst e_X12_lease_3.2.2.2.2.1 ?_
        obtain ⟨q20, h⟩ := h
        refine R_callV (mc := 0) (ms := 0) (mc' := 0) (ms' := 0) (M' := M_X12_is) (d' := 0) (as := [vI 0]) (st := []) 12 1 e_X12_lease_3.2.2.2.2.2.1 (kCVof m_X12_is l_X12_100) rfl (by decide) km_0 (by decide) (by decide) rfl rfl (by show (0 : Nat) ≤ 8; decide) ?_
        refine Run.mono (P_X12_is q20) (fun rr ss e => ?_)
        obtain ⟨e1, e2⟩ := e
        refine R_eqs (st2 := [vI (kb ((0 : Int) = 0))]) (σ2 := (kup (kup σ 1 ((120 + (5 * l1)) + 2) l2) 0 2 (0))) (by rw [e1]; rfl) e2 ?_
        exact R_zreturn e_X12_lease_3.2.2.2.2.2.2 rfl (kb_01 _) h
      · replace h := h.2 q
        refine R_aload_n e_X12_lease_2.2.1 0 rfl ?_
        refine R_bipush e_X12_lease_2.2.2.1 (by decide) ?_
        obtain ⟨q23, h⟩ := h
        refine R_callV (mc := 0) (ms := 0) (mc' := 0) (ms' := 0) (M' := M_X12_is) (d' := 0) (as := [vI 7]) (st := []) 12 1 e_X12_lease_2.2.2.2.1 (kCVof m_X12_is l_X12_100) rfl (by decide) km_0 (by decide) (by decide) rfl rfl (by show (0 : Nat) ≤ 8; decide) ?_
        refine Run.mono (P_X12_is q23) (fun rr ss e => ?_)
        obtain ⟨e1, e2⟩ := e
        refine R_eqs (st2 := [vI (kb ((7 : Int) = 0))]) (σ2 := (kup σ 0 2 (7))) (by rw [e1]; rfl) e2 ?_
        exact R_zreturn e_X12_lease_2.2.2.2.2.1 rfl (kb_01 _) h
    · replace h := h.2 (kb_f q)
      refine R_aload_n e_X12_lease_0.2.2.2.2.2.2.2.2.1 0 rfl ?_
      refine R_iconst e_X12_lease_0.2.2.2.2.2.2.2.2.2 ?_
      obtain ⟨q26, h⟩ := h
      refine R_callV (mc := 0) (ms := 0) (mc' := 0) (ms' := 0) (M' := M_X12_is) (d' := 0) (as := [vI 1]) (st := []) 12 1 e_X12_lease_1.1 (kCVof m_X12_is l_X12_100) rfl (by decide) km_0 (by decide) (by decide) rfl rfl (by show (0 : Nat) ≤ 8; decide) ?_
      refine Run.mono (P_X12_is q26) (fun rr ss e => ?_)
      obtain ⟨e1, e2⟩ := e
      refine R_eqs (st2 := [vI (kb ((1 : Int) = 0))]) (σ2 := (kup σ 0 2 (1))) (by rw [e1]; rfl) e2 ?_
      exact R_zreturn e_X12_lease_1.2.1 rfl (kb_01 _) h
/-! KiteLandModel.reap(I)I -/
theorem e_X12_reap_0 : decode cX12_reap 0 = .ok (.aload_n 0, 1) ∧ decode cX12_reap 1 = .ok (.iload_n 1, 1) ∧ decode cX12_reap 2 = .ok (.invokevirtual 346, 3) ∧ decode cX12_reap 5 = .ok (.ifCond .ne 9, 3) ∧ decode cX12_reap 8 = .ok (.aload_n 0, 1) ∧ decode cX12_reap 9 = .ok (.iconst 1, 1) ∧ decode cX12_reap 10 = .ok (.invokevirtual 93, 3) ∧ decode cX12_reap 13 = .ok (.ireturn, 1) ∧ decode cX12_reap 14 = .ok (.aload_n 0, 1) ∧ decode cX12_reap 15 = .ok (.iload_n 1, 1) := by decide +kernel
theorem e_X12_reap_1 : decode cX12_reap 16 = .ok (.invokevirtual 331, 3) ∧ decode cX12_reap 19 = .ok (.ifCond .ne 10, 3) ∧ decode cX12_reap 22 = .ok (.aload_n 0, 1) ∧ decode cX12_reap 23 = .ok (.bipush 7, 2) ∧ decode cX12_reap 25 = .ok (.invokevirtual 93, 3) ∧ decode cX12_reap 28 = .ok (.ireturn, 1) ∧ decode cX12_reap 29 = .ok (.iload_n 1, 1) ∧ decode cX12_reap 30 = .ok (.invokestatic 334, 3) ∧ decode cX12_reap 33 = .ok (.istore_n 2, 1) ∧ decode cX12_reap 34 = .ok (.aload_n 0, 1) := by decide +kernel
theorem e_X12_reap_2 : decode cX12_reap 35 = .ok (.aload_n 0, 1) ∧ decode cX12_reap 36 = .ok (.getfield 7, 3) ∧ decode cX12_reap 39 = .ok (.iload_n 2, 1) ∧ decode cX12_reap 40 = .ok (.iaload, 1) ∧ decode cX12_reap 41 = .ok (.aload_n 0, 1) ∧ decode cX12_reap 42 = .ok (.getfield 7, 3) ∧ decode cX12_reap 45 = .ok (.iload_n 2, 1) ∧ decode cX12_reap 46 = .ok (.iconst 1, 1) ∧ decode cX12_reap 47 = .ok (.iadd, 1) ∧ decode cX12_reap 48 = .ok (.iaload, 1) := by decide +kernel
theorem e_X12_reap_3 : decode cX12_reap 49 = .ok (.aload_n 0, 1) ∧ decode cX12_reap 50 = .ok (.invokevirtual 325, 3) ∧ decode cX12_reap 53 = .ok (.invokevirtual 312, 3) ∧ decode cX12_reap 56 = .ok (.istore_n 3, 1) ∧ decode cX12_reap 57 = .ok (.iload_n 3, 1) ∧ decode cX12_reap 58 = .ok (.iconst (-1), 1) ∧ decode cX12_reap 59 = .ok (.if_icmp .ne 10, 3) ∧ decode cX12_reap 62 = .ok (.aload_n 0, 1) ∧ decode cX12_reap 63 = .ok (.bipush 6, 2) ∧ decode cX12_reap 65 = .ok (.invokevirtual 93, 3) := by decide +kernel
theorem e_X12_reap_4 : decode cX12_reap 68 = .ok (.ireturn, 1) ∧ decode cX12_reap 69 = .ok (.aload_n 0, 1) ∧ decode cX12_reap 70 = .ok (.getfield 7, 3) ∧ decode cX12_reap 73 = .ok (.iload_n 2, 1) ∧ decode cX12_reap 74 = .ok (.iconst 3, 1) ∧ decode cX12_reap 75 = .ok (.iadd, 1) ∧ decode cX12_reap 76 = .ok (.iconst 0, 1) ∧ decode cX12_reap 77 = .ok (.iastore, 1) ∧ decode cX12_reap 78 = .ok (.aload_n 0, 1) ∧ decode cX12_reap 79 = .ok (.iload_n 3, 1) := by decide +kernel
theorem e_X12_reap_5 : decode cX12_reap 80 = .ok (.aload_n 0, 1) ∧ decode cX12_reap 81 = .ok (.getfield 7, 3) ∧ decode cX12_reap 84 = .ok (.iload_n 2, 1) ∧ decode cX12_reap 85 = .ok (.iconst 2, 1) ∧ decode cX12_reap 86 = .ok (.iadd, 1) ∧ decode cX12_reap 87 = .ok (.iaload, 1) ∧ decode cX12_reap 88 = .ok (.invokevirtual 373, 3) ∧ decode cX12_reap 91 = .ok (.aload_n 0, 1) ∧ decode cX12_reap 92 = .ok (.iload_n 3, 1) ∧ decode cX12_reap 93 = .ok (.invokevirtual 97, 3) := by decide +kernel
theorem e_X12_reap_6 : decode cX12_reap 96 = .ok (.ireturn, 1) := by decide +kernel
theorem S_X12_reap {G : Kg} {σ : Kmem} {Q : Int → Kmem → Prop} {l1 : Int}  (h : (rI (l1) ∧ wf (σ 1)) ∧ (((0 ≤ l1 ∧ (l1 : Int) < (σ 1) 3) → (wf (σ 1) ∧ (0 : Int) ≤ l1 ∧ (l1 : Int) < (σ 1) 3) ∧ ((((σ 1) (88 + 4 * (l1) + 2) ≤ (σ 1) (88 + 4 * (l1) + 3)) → (0 ≤ 88 + (4 * l1) ∧ 88 + (4 * l1) < 3598) ∧ (0 ≤ (88 + (4 * l1)) + 1 ∧ (88 + (4 * l1)) + 1 < 3598) ∧ (0 ≤ σ 1 7 ∧ σ 1 7 ≤ 2147483647) ∧ (wf (σ 1) ∧ ((0 : Int) ≤ (σ 1 (88 + (4 * l1))) ∧ ((σ 1 (88 + (4 * l1))) : Int) ≤ 100) ∧ ((0 : Int) ≤ (σ 1 ((88 + (4 * l1)) + 1)) ∧ ((σ 1 ((88 + (4 * l1)) + 1)) : Int) ≤ 100) ∧ sHr (((σ 1 7) % 12))) ∧ (rI (sOwn (σ 1) ((σ 1 (88 + (4 * l1)))) ((σ 1 ((88 + (4 * l1)) + 1))) (((σ 1 7) % 12)))) ∧ ((sOwn (σ 1) ((σ 1 (88 + (4 * l1)))) ((σ 1 ((88 + (4 * l1)) + 1))) (((σ 1 7) % 12)) ≠ -1 → (0 ≤ (88 + (4 * l1)) + 3 ∧ (88 + (4 * l1)) + 3 < 3598) ∧ (0 ≤ (88 + (4 * l1)) + 2 ∧ (88 + (4 * l1)) + 2 < 3598) ∧ (wf ((kup σ 1 ((88 + (4 * l1)) + 3) 0) 1) ∧ sKt ((kup σ 1 ((88 + (4 * l1)) + 3) 0) 1) ((sOwn (σ 1) ((σ 1 (88 + (4 * l1)))) ((σ 1 ((88 + (4 * l1)) + 1))) (((σ 1 7) % 12)))) ∧ ((0 : Int) ≤ ((kup σ 1 ((88 + (4 * l1)) + 3) 0) 1 ((88 + (4 * l1)) + 2)) ∧ (((kup σ 1 ((88 + (4 * l1)) + 3) 0) 1 ((88 + (4 * l1)) + 2)) : Int) ≤ 1000)) ∧ Q (sOwn (σ 1) ((σ 1 (88 + (4 * l1)))) ((σ 1 ((88 + (4 * l1)) + 1))) (((σ 1 7) % 12))) (kup (kst (kup σ 1 ((88 + (4 * l1)) + 3) 0) 1 (sEarn ((kup σ 1 ((88 + (4 * l1)) + 3) 0) 1) ((sOwn (σ 1) ((σ 1 (88 + (4 * l1)))) ((σ 1 ((88 + (4 * l1)) + 1))) (((σ 1 7) % 12)))) (((kup σ 1 ((88 + (4 * l1)) + 3) 0) 1 ((88 + (4 * l1)) + 2))))) 0 2 0)) ∧ (sOwn (σ 1) ((σ 1 (88 + (4 * l1)))) ((σ 1 ((88 + (4 * l1)) + 1))) (((σ 1 7) % 12)) = -1 → Q (-1) (kup σ 0 2 6)))) ∧ (¬ ((σ 1) (88 + 4 * (l1) + 2) ≤ (σ 1) (88 + 4 * (l1) + 3)) → Q (-1) (kup σ 0 2 7)))) ∧ (¬ (0 ≤ l1 ∧ (l1 : Int) < (σ 1) 3) → Q (-1) (kup σ 0 2 1)))) : Run G WM M_X12_reap 7 0 0 [vA G 0, vI l1] σ Q := by
  refine Run.of (by decide +kernel) (by show (2 : Nat) ≤ 4; decide) ?_
  show Ex G WM M_X12_reap 7 0 0 0 [(0, vA G 0), (1, vI l1)] [] σ Q
  refine R_aload_n e_X12_reap_0.1 0 rfl ?_
  refine R_iload_n e_X12_reap_0.2.1 1 rfl ?_
  obtain ⟨q3, h⟩ := h
  refine R_callV (mc := 0) (ms := 0) (mc' := 0) (ms' := 0) (M' := M_X12_isCrop) (d' := 0) (as := [vI l1]) (st := []) 12 1 e_X12_reap_0.2.2.1 (kCVof m_X12_isCrop l_X12_346) rfl (by decide) km_0 (by decide) (by decide) rfl rfl (by show (0 : Nat) ≤ 8; decide) ?_
  refine Run.mono (P_X12_isCrop q3) (fun rr ss e => ?_)
  obtain ⟨e1, e2⟩ := e
  refine R_eqs (st2 := [vI (kb (0 ≤ l1 ∧ (l1 : Int) < (σ 1) 3))]) (σ2 := σ) (by rw [e1]; rfl) e2 ?_
  refine R_if_ne 14 e_X12_reap_0.2.2.2.1 (by decide) (kb_r _) (fun q => ?_) (fun q => ?_)
  · replace h := h.1 (kb_t q)
    refine R_aload_n e_X12_reap_0.2.2.2.2.2.2.2.2.1 0 rfl ?_
    refine R_iload_n e_X12_reap_0.2.2.2.2.2.2.2.2.2 1 rfl ?_
    obtain ⟨q6, h⟩ := h
    refine R_callV (mc := 0) (ms := 0) (mc' := 0) (ms' := 0) (M' := M_X12_isRipe) (d' := 1) (as := [vI l1]) (st := []) 12 1 e_X12_reap_1.1 (kCVof m_X12_isRipe l_X12_331) rfl (by decide) km_0 (by decide) (by decide) rfl rfl (by show (0 : Nat) ≤ 8; decide) ?_
    refine Run.mono (P_X12_isRipe q6) (fun rr ss e => ?_)
    obtain ⟨e1, e2⟩ := e
    refine R_eqs (st2 := [vI (kb ((σ 1) (88 + 4 * (l1) + 2) ≤ (σ 1) (88 + 4 * (l1) + 3)))]) (σ2 := σ) (by rw [e1]; rfl) e2 ?_
    refine R_if_ne 29 e_X12_reap_1.2.1 (by decide) (kb_r _) (fun q => ?_) (fun q => ?_)
    · replace h := h.1 (kb_t q)
      refine R_iload_n e_X12_reap_1.2.2.2.2.2.2.1 1 rfl ?_
      refine R_callS (mc := 0) (ms := 0) (mc' := 0) (ms' := 0) (M' := M_X12_cropRow) (d' := 0) (as := [vI l1]) (st := []) 1 e_X12_reap_1.2.2.2.2.2.2.2.1 (kCSof m_X12_cropRow l_X12_334) (by decide) (by decide) rfl rfl (by show (0 : Nat) ≤ 8; decide) ?_
      refine S_X12_cropRow ?_
      refine R_eqs (st2 := [vI (88 + (4 * l1))]) (σ2 := σ) rfl rfl ?_
      refine R_istore_n (ls2 := [(2, vI (88 + (4 * l1))), (0, vA G 0), (1, vI l1)]) e_X12_reap_1.2.2.2.2.2.2.2.2.1 (by decide) rfl ?_
      refine R_aload_n e_X12_reap_1.2.2.2.2.2.2.2.2.2 1 rfl ?_
      refine R_aload_n e_X12_reap_2.1 1 rfl ?_
      refine R_getA 12 0 1 e_X12_reap_2.2.1 f_X12_7 km_0 (fun _ _ => rfl) rm_0_0 (by decide) ?_
      refine R_iload_n e_X12_reap_2.2.2.1 0 rfl ?_
      obtain ⟨q9, h⟩ := h
      refine R_iald 3598 e_X12_reap_2.2.2.2.1 kma_1 q9 ?_
      refine R_aload_n e_X12_reap_2.2.2.2.2.1 1 rfl ?_
      refine R_getA 12 0 1 e_X12_reap_2.2.2.2.2.2.1 f_X12_7 km_0 (fun _ _ => rfl) rm_0_0 (by decide) ?_
      refine R_iload_n e_X12_reap_2.2.2.2.2.2.2.1 0 rfl ?_
      refine R_iconst e_X12_reap_2.2.2.2.2.2.2.2.1 ?_
      refine R_iadd e_X12_reap_2.2.2.2.2.2.2.2.2.1 ?_
      obtain ⟨q10, h⟩ := h
      refine R_iald 3598 e_X12_reap_2.2.2.2.2.2.2.2.2.2 kma_1 q10 ?_
      refine R_aload_n e_X12_reap_3.1 1 rfl ?_
      refine R_callV (mc := 0) (ms := 0) (mc' := 0) (ms' := 0) (M' := M_X12_now) (d' := 0) (as := []) (st := [vI (σ 1 ((88 + (4 * l1)) + 1)), vI (σ 1 (88 + (4 * l1))), vA G 0]) 12 0 e_X12_reap_3.2.1 (kCVof m_X12_now l_X12_325) rfl (by decide) km_0 (by decide) (by decide) rfl rfl (by show (3 : Nat) ≤ 8; decide) ?_
      obtain ⟨q13, h⟩ := h
      refine S_X12_now ⟨q13, ?_⟩
      refine R_eqs (st2 := [vI ((σ 1 7) % 12), vI (σ 1 ((88 + (4 * l1)) + 1)), vI (σ 1 (88 + (4 * l1))), vA G 0]) (σ2 := σ) rfl rfl ?_
      obtain ⟨q16, h⟩ := h
      refine R_callV (mc := 0) (ms := 0) (mc' := 0) (ms' := 0) (M' := M_X12_ownerOf) (d' := 6) (as := [vI (σ 1 (88 + (4 * l1))), vI (σ 1 ((88 + (4 * l1)) + 1)), vI ((σ 1 7) % 12)]) (st := []) 12 3 e_X12_reap_3.2.2.1 (kCVof m_X12_ownerOf l_X12_312) rfl (by decide) km_0 (by decide) (by decide) rfl rfl (by show (0 : Nat) ≤ 8; decide) ?_
      refine Run.mono (P_X12_ownerOf q16) (fun rr ss e => ?_)
      obtain ⟨e1, e2⟩ := e
      refine R_eqs (st2 := [vI (sOwn (σ 1) ((σ 1 (88 + (4 * l1)))) ((σ 1 ((88 + (4 * l1)) + 1))) (((σ 1 7) % 12)))]) (σ2 := σ) (by rw [e1]; rfl) e2 ?_
      refine R_istore_n (ls2 := [(3, vI (sOwn (σ 1) ((σ 1 (88 + (4 * l1)))) ((σ 1 ((88 + (4 * l1)) + 1))) (((σ 1 7) % 12)))), (2, vI (88 + (4 * l1))), (0, vA G 0), (1, vI l1)]) e_X12_reap_3.2.2.2.1 (by decide) rfl ?_
      refine R_iload_n e_X12_reap_3.2.2.2.2.1 0 rfl ?_
      refine R_iconst e_X12_reap_3.2.2.2.2.2.1 ?_
      obtain ⟨q17, h⟩ := h
      refine R_icmp_ne 69 e_X12_reap_3.2.2.2.2.2.2.1 (by decide) q17 (by decide) (fun q => ?_) (fun q => ?_)
      · replace h := h.1 q
        refine R_aload_n e_X12_reap_4.2.1 2 rfl ?_
        refine R_getA 12 0 1 e_X12_reap_4.2.2.1 f_X12_7 km_0 (fun _ _ => rfl) rm_0_0 (by decide) ?_
        refine R_iload_n e_X12_reap_4.2.2.2.1 1 rfl ?_
        refine R_iconst e_X12_reap_4.2.2.2.2.1 ?_
        refine R_iadd e_X12_reap_4.2.2.2.2.2.1 ?_
        refine R_iconst e_X12_reap_4.2.2.2.2.2.2.1 ?_
        obtain ⟨q18, h⟩ := h
        refine R_iast 3598 WM_ok e_X12_reap_4.2.2.2.2.2.2.2.1 kma_1 q18 ?_
        refine R_aload_n e_X12_reap_4.2.2.2.2.2.2.2.2.1 2 rfl ?_
        refine R_iload_n e_X12_reap_4.2.2.2.2.2.2.2.2.2 0 rfl ?_
        refine R_aload_n e_X12_reap_5.1 2 rfl ?_
        refine R_getA 12 0 1 e_X12_reap_5.2.1 f_X12_7 km_0 (fun _ _ => rfl) rm_0_0 (by decide) ?_
        refine R_iload_n e_X12_reap_5.2.2.1 1 rfl ?_
        refine R_iconst e_X12_reap_5.2.2.2.1 ?_
        refine R_iadd e_X12_reap_5.2.2.2.2.1 ?_
        obtain ⟨q19, h⟩ := h
        refine R_iald 3598 e_X12_reap_5.2.2.2.2.2.1 kma_1 q19 ?_
        obtain ⟨q22, h⟩ := h
        refine R_callV (mc := 0) (ms := 0) (mc' := 0) (ms' := 0) (M' := M_X12_earns) (d' := 2) (as := [vI (sOwn (σ 1) ((σ 1 (88 + (4 * l1)))) ((σ 1 ((88 + (4 * l1)) + 1))) (((σ 1 7) % 12))), vI ((kup σ 1 ((88 + (4 * l1)) + 3) 0) 1 ((88 + (4 * l1)) + 2))]) (st := []) 12 2 e_X12_reap_5.2.2.2.2.2.2.1 (kCVof m_X12_earns l_X12_373) rfl (by decide) km_0 (by decide) (by decide) rfl rfl (by show (0 : Nat) ≤ 8; decide) ?_
        refine Run.mono (P_X12_earns q22) (fun rr ss e => ?_)
        obtain ⟨e1, e2⟩ := e
        refine R_eqs (st2 := []) (σ2 := (kst (kup σ 1 ((88 + (4 * l1)) + 3) 0) 1 (sEarn ((kup σ 1 ((88 + (4 * l1)) + 3) 0) 1) ((sOwn (σ 1) ((σ 1 (88 + (4 * l1)))) ((σ 1 ((88 + (4 * l1)) + 1))) (((σ 1 7) % 12)))) (((kup σ 1 ((88 + (4 * l1)) + 3) 0) 1 ((88 + (4 * l1)) + 2)))))) (by rfl) e2 ?_
        refine R_aload_n e_X12_reap_5.2.2.2.2.2.2.2.1 2 rfl ?_
        refine R_iload_n e_X12_reap_5.2.2.2.2.2.2.2.2.1 0 rfl ?_
        refine R_callV (mc := 0) (ms := 0) (mc' := 0) (ms' := 0) (M' := M_X12_gives) (d' := 0) (as := [vI (sOwn (σ 1) ((σ 1 (88 + (4 * l1)))) ((σ 1 ((88 + (4 * l1)) + 1))) (((σ 1 7) % 12)))]) (st := []) 12 1 e_X12_reap_5.2.2.2.2.2.2.2.2.2 (kCVof m_X12_gives l_X12_97) rfl (by decide) km_0 (by decide) (by decide) rfl rfl (by show (0 : Nat) ≤ 8; decide) ?_
        refine S_X12_gives ?_
        refine R_eqs (st2 := [vI (sOwn (σ 1) ((σ 1 (88 + (4 * l1)))) ((σ 1 ((88 + (4 * l1)) + 1))) (((σ 1 7) % 12)))]) (σ2 := (kup (kst (kup σ 1 ((88 + (4 * l1)) + 3) 0) 1 (sEarn ((kup σ 1 ((88 + (4 * l1)) + 3) 0) 1) ((sOwn (σ 1) ((σ 1 (88 + (4 * l1)))) ((σ 1 ((88 + (4 * l1)) + 1))) (((σ 1 7) % 12)))) (((kup σ 1 ((88 + (4 * l1)) + 3) 0) 1 ((88 + (4 * l1)) + 2))))) 0 2 0)) rfl rfl ?_
        exact R_ireturn e_X12_reap_6 rfl h
      · replace h := h.2 q
        refine R_aload_n e_X12_reap_3.2.2.2.2.2.2.2.1 2 rfl ?_
        refine R_bipush e_X12_reap_3.2.2.2.2.2.2.2.2.1 (by decide) ?_
        refine R_callV (mc := 0) (ms := 0) (mc' := 0) (ms' := 0) (M' := M_X12_refuse) (d' := 0) (as := [vI 6]) (st := []) 12 1 e_X12_reap_3.2.2.2.2.2.2.2.2.2 (kCVof m_X12_refuse l_X12_93) rfl (by decide) km_0 (by decide) (by decide) rfl rfl (by show (0 : Nat) ≤ 8; decide) ?_
        refine S_X12_refuse ?_
        refine R_eqs (st2 := [vI (-1)]) (σ2 := (kup σ 0 2 6)) rfl rfl ?_
        exact R_ireturn e_X12_reap_4.1 rfl h
    · replace h := h.2 (kb_f q)
      refine R_aload_n e_X12_reap_1.2.2.1 0 rfl ?_
      refine R_bipush e_X12_reap_1.2.2.2.1 (by decide) ?_
      refine R_callV (mc := 0) (ms := 0) (mc' := 0) (ms' := 0) (M' := M_X12_refuse) (d' := 0) (as := [vI 7]) (st := []) 12 1 e_X12_reap_1.2.2.2.2.1 (kCVof m_X12_refuse l_X12_93) rfl (by decide) km_0 (by decide) (by decide) rfl rfl (by show (0 : Nat) ≤ 8; decide) ?_
      refine S_X12_refuse ?_
      refine R_eqs (st2 := [vI (-1)]) (σ2 := (kup σ 0 2 7)) rfl rfl ?_
      exact R_ireturn e_X12_reap_1.2.2.2.2.2.1 rfl h
  · replace h := h.2 (kb_f q)
    refine R_aload_n e_X12_reap_0.2.2.2.2.1 0 rfl ?_
    refine R_iconst e_X12_reap_0.2.2.2.2.2.1 ?_
    refine R_callV (mc := 0) (ms := 0) (mc' := 0) (ms' := 0) (M' := M_X12_refuse) (d' := 0) (as := [vI 1]) (st := []) 12 1 e_X12_reap_0.2.2.2.2.2.2.1 (kCVof m_X12_refuse l_X12_93) rfl (by decide) km_0 (by decide) (by decide) rfl rfl (by show (0 : Nat) ≤ 8; decide) ?_
    refine S_X12_refuse ?_
    refine R_eqs (st2 := [vI (-1)]) (σ2 := (kup σ 0 2 1)) rfl rfl ?_
    exact R_ireturn e_X12_reap_0.2.2.2.2.2.2.2.1 rfl h
/-! KiteLandModel.ripe(I)I -/
theorem e_X12_ripe_0 : decode cX12_ripe 0 = .ok (.aload_n 0, 1) ∧ decode cX12_ripe 1 = .ok (.iload_n 1, 1) ∧ decode cX12_ripe 2 = .ok (.invokevirtual 346, 3) ∧ decode cX12_ripe 5 = .ok (.ifCond .eq 19, 3) ∧ decode cX12_ripe 8 = .ok (.aload_n 0, 1) ∧ decode cX12_ripe 9 = .ok (.aload_n 0, 1) ∧ decode cX12_ripe 10 = .ok (.iconst 0, 1) ∧ decode cX12_ripe 11 = .ok (.iload_n 1, 1) ∧ decode cX12_ripe 12 = .ok (.sipush 999, 3) ∧ decode cX12_ripe 15 = .ok (.invokevirtual 425, 3) := by decide +kernel
theorem e_X12_ripe_1 : decode cX12_ripe 18 = .ok (.invokevirtual 358, 3) ∧ decode cX12_ripe 21 = .ok (.goto 8, 3) ∧ decode cX12_ripe 24 = .ok (.aload_n 0, 1) ∧ decode cX12_ripe 25 = .ok (.iconst 1, 1) ∧ decode cX12_ripe 26 = .ok (.invokevirtual 93, 3) ∧ decode cX12_ripe 29 = .ok (.ireturn, 1) := by decide +kernel
theorem S_X12_ripe {G : Kg} {σ : Kmem} {Q : Int → Kmem → Prop} {l1 : Int}  (h : (rI (l1) ∧ wf (σ 1)) ∧ ((¬ (0 ≤ l1 ∧ (l1 : Int) < (σ 1) 3) → Q (-1) (kup σ 0 2 1)) ∧ ((0 ≤ l1 ∧ (l1 : Int) < (σ 1) 3) → (wf (σ 1) ∧ (σ 1) 7 ≤ 20000 ∧ ((0 : Int) ≤ l1 ∧ (l1 : Int) < 31) ∧ ((0 : Int) ≤ 999 ∧ (999 : Int) ≤ 1000) ∧ (0 : Int) ≤ 0 ∧ (0 : Int) ≤ 1) ∧ (rI ((sTill (fun u => sIn (sSet u (if (0 : Int) = 0 then 2 else 1) : Int) (l1)) ((999 : Int) + 1).toNat 0 (sKeep (σ 1) 3084)))) ∧ Q (sTill (fun u => sIn (sSet u (if (0 : Int) = 0 then 2 else 1) : Int) (l1)) ((999 : Int) + 1).toNat 0 (sKeep (σ 1) 3084)) (kup (kst σ 1 (sKeep (σ 1) 3084)) 0 2 (kif (((sTill (fun u => sIn (sSet u (if (0 : Int) = 0 then 2 else 1) : Int) (l1)) ((999 : Int) + 1).toNat 0 (sKeep (σ 1) 3084)) : Int) = -1) 6 0))))) : Run G WM M_X12_ripe 10 0 0 [vA G 0, vI l1] σ Q := by
  refine Run.of (by decide +kernel) (by show (2 : Nat) ≤ 2; decide) ?_
  show Ex G WM M_X12_ripe 10 0 0 0 [(0, vA G 0), (1, vI l1)] [] σ Q
  refine R_aload_n e_X12_ripe_0.1 0 rfl ?_
  refine R_iload_n e_X12_ripe_0.2.1 1 rfl ?_
  obtain ⟨q3, h⟩ := h
  refine R_callV (mc := 0) (ms := 0) (mc' := 0) (ms' := 0) (M' := M_X12_isCrop) (d' := 0) (as := [vI l1]) (st := []) 12 1 e_X12_ripe_0.2.2.1 (kCVof m_X12_isCrop l_X12_346) rfl (by decide) km_0 (by decide) (by decide) rfl rfl (by show (0 : Nat) ≤ 8; decide) ?_
  refine Run.mono (P_X12_isCrop q3) (fun rr ss e => ?_)
  obtain ⟨e1, e2⟩ := e
  refine R_eqs (st2 := [vI (kb (0 ≤ l1 ∧ (l1 : Int) < (σ 1) 3))]) (σ2 := σ) (by rw [e1]; rfl) e2 ?_
  refine R_if_eq 24 e_X12_ripe_0.2.2.2.1 (by decide) (kb_r _) (fun q => ?_) (fun q => ?_)
  · replace h := h.1 (kb_f q)
    refine R_aload_n e_X12_ripe_1.2.2.1 0 rfl ?_
    refine R_iconst e_X12_ripe_1.2.2.2.1 ?_
    refine R_callV (mc := 0) (ms := 0) (mc' := 0) (ms' := 0) (M' := M_X12_refuse) (d' := 0) (as := [vI 1]) (st := []) 12 1 e_X12_ripe_1.2.2.2.2.1 (kCVof m_X12_refuse l_X12_93) rfl (by decide) km_0 (by decide) (by decide) rfl rfl (by show (0 : Nat) ≤ 8; decide) ?_
    refine S_X12_refuse ?_
    refine R_eqs (st2 := [vI (-1)]) (σ2 := (kup σ 0 2 1)) rfl rfl ?_
    exact R_ireturn e_X12_ripe_1.2.2.2.2.2 rfl h
  · replace h := h.2 (kb_t q)
    refine R_aload_n e_X12_ripe_0.2.2.2.2.1 0 rfl ?_
    refine R_aload_n e_X12_ripe_0.2.2.2.2.2.1 0 rfl ?_
    refine R_iconst e_X12_ripe_0.2.2.2.2.2.2.1 ?_
    refine R_iload_n e_X12_ripe_0.2.2.2.2.2.2.2.1 1 rfl ?_
    refine R_sipush e_X12_ripe_0.2.2.2.2.2.2.2.2.1 (by decide) ?_
    obtain ⟨q8, h⟩ := h
    refine R_callV (mc := 0) (ms := 0) (mc' := 0) (ms' := 0) (M' := M_X12_hoursTill) (d' := 9) (as := [vI 0, vI l1, vI 999]) (st := [vA G 0]) 12 3 e_X12_ripe_0.2.2.2.2.2.2.2.2.2 (kCVof m_X12_hoursTill l_X12_425) rfl (by decide) km_0 (by decide) (by decide) rfl rfl (by show (1 : Nat) ≤ 8; decide) ?_
    refine Run.mono (P_X12_hoursTill q8) (fun rr ss e => ?_)
    obtain ⟨e1, e2⟩ := e
    refine R_eqs (st2 := [vI (sTill (fun u => sIn (sSet u (if (0 : Int) = 0 then 2 else 1) : Int) (l1)) ((999 : Int) + 1).toNat 0 (sKeep (σ 1) 3084)), vA G 0]) (σ2 := (kst σ 1 (sKeep (σ 1) 3084))) (by rw [e1]; rfl) e2 ?_
    obtain ⟨q11, h⟩ := h
    refine R_callV (mc := 0) (ms := 0) (mc' := 0) (ms' := 0) (M' := M_X12_orNone) (d' := 1) (as := [vI (sTill (fun u => sIn (sSet u (if (0 : Int) = 0 then 2 else 1) : Int) (l1)) ((999 : Int) + 1).toNat 0 (sKeep (σ 1) 3084))]) (st := []) 12 1 e_X12_ripe_1.1 (kCVof m_X12_orNone l_X12_358) rfl (by decide) km_0 (by decide) (by decide) rfl rfl (by show (0 : Nat) ≤ 8; decide) ?_
    refine Run.mono (P_X12_orNone q11) (fun rr ss e => ?_)
    obtain ⟨e1, e2⟩ := e
    refine R_eqs (st2 := [vI (sTill (fun u => sIn (sSet u (if (0 : Int) = 0 then 2 else 1) : Int) (l1)) ((999 : Int) + 1).toNat 0 (sKeep (σ 1) 3084))]) (σ2 := (kup (kst σ 1 (sKeep (σ 1) 3084)) 0 2 (kif (((sTill (fun u => sIn (sSet u (if (0 : Int) = 0 then 2 else 1) : Int) (l1)) ((999 : Int) + 1).toNat 0 (sKeep (σ 1) 3084)) : Int) = -1) 6 0))) (by rw [e1]; rfl) e2 ?_
    refine R_goto 29 e_X12_ripe_1.2.1 (by decide) ?_
    exact R_ireturn e_X12_ripe_1.2.2.2.2.2 rfl h
/-! KiteLandModel.cutIn(I)I -/
theorem e_X12_cutIn_0 : decode cX12_cutIn 0 = .ok (.aload_n 0, 1) ∧ decode cX12_cutIn 1 = .ok (.iload_n 1, 1) ∧ decode cX12_cutIn 2 = .ok (.invokevirtual 343, 3) ∧ decode cX12_cutIn 5 = .ok (.ifCond .eq 18, 3) ∧ decode cX12_cutIn 8 = .ok (.aload_n 0, 1) ∧ decode cX12_cutIn 9 = .ok (.aload_n 0, 1) ∧ decode cX12_cutIn 10 = .ok (.iconst 1, 1) ∧ decode cX12_cutIn 11 = .ok (.iload_n 1, 1) ∧ decode cX12_cutIn 12 = .ok (.bipush 99, 2) ∧ decode cX12_cutIn 14 = .ok (.invokevirtual 425, 3) := by decide +kernel
theorem e_X12_cutIn_1 : decode cX12_cutIn 17 = .ok (.invokevirtual 358, 3) ∧ decode cX12_cutIn 20 = .ok (.goto 8, 3) ∧ decode cX12_cutIn 23 = .ok (.aload_n 0, 1) ∧ decode cX12_cutIn 24 = .ok (.iconst 1, 1) ∧ decode cX12_cutIn 25 = .ok (.invokevirtual 93, 3) ∧ decode cX12_cutIn 28 = .ok (.ireturn, 1) := by decide +kernel
theorem S_X12_cutIn {G : Kg} {σ : Kmem} {Q : Int → Kmem → Prop} {l1 : Int}  (h : (rI l1 ∧ wf (σ 1)) ∧ ((¬ (sKt (σ 1) (l1)) → Q (-1) (kup σ 0 2 1)) ∧ ((sKt (σ 1) (l1)) → (wf (σ 1) ∧ (σ 1) 7 ≤ 20000 ∧ ((0 : Int) ≤ l1 ∧ (l1 : Int) < 31) ∧ ((0 : Int) ≤ 99 ∧ (99 : Int) ≤ 1000) ∧ (0 : Int) ≤ 1 ∧ (1 : Int) ≤ 1) ∧ (rI ((sTill (fun u => sIn (sSet u (if (1 : Int) = 0 then 2 else 1) : Int) (l1)) ((99 : Int) + 1).toNat 0 (sKeep (σ 1) 3084)))) ∧ Q (sTill (fun u => sIn (sSet u (if (1 : Int) = 0 then 2 else 1) : Int) (l1)) ((99 : Int) + 1).toNat 0 (sKeep (σ 1) 3084)) (kup (kst σ 1 (sKeep (σ 1) 3084)) 0 2 (kif (((sTill (fun u => sIn (sSet u (if (1 : Int) = 0 then 2 else 1) : Int) (l1)) ((99 : Int) + 1).toNat 0 (sKeep (σ 1) 3084)) : Int) = -1) 6 0))))) : Run G WM M_X12_cutIn 10 0 0 [vA G 0, vI l1] σ Q := by
  refine Run.of (by decide +kernel) (by show (2 : Nat) ≤ 2; decide) ?_
  show Ex G WM M_X12_cutIn 10 0 0 0 [(0, vA G 0), (1, vI l1)] [] σ Q
  refine R_aload_n e_X12_cutIn_0.1 0 rfl ?_
  refine R_iload_n e_X12_cutIn_0.2.1 1 rfl ?_
  obtain ⟨q3, h⟩ := h
  refine R_callV (mc := 0) (ms := 0) (mc' := 0) (ms' := 0) (M' := M_X12_isKite) (d' := 0) (as := [vI l1]) (st := []) 12 1 e_X12_cutIn_0.2.2.1 (kCVof m_X12_isKite l_X12_343) rfl (by decide) km_0 (by decide) (by decide) rfl rfl (by show (0 : Nat) ≤ 8; decide) ?_
  refine Run.mono (P_X12_isKite q3) (fun rr ss e => ?_)
  obtain ⟨e1, e2⟩ := e
  refine R_eqs (st2 := [vI (kb (sKt (σ 1) (l1)))]) (σ2 := σ) (by rw [e1]; rfl) e2 ?_
  refine R_if_eq 23 e_X12_cutIn_0.2.2.2.1 (by decide) (kb_r _) (fun q => ?_) (fun q => ?_)
  · replace h := h.1 (kb_f q)
    refine R_aload_n e_X12_cutIn_1.2.2.1 0 rfl ?_
    refine R_iconst e_X12_cutIn_1.2.2.2.1 ?_
    refine R_callV (mc := 0) (ms := 0) (mc' := 0) (ms' := 0) (M' := M_X12_refuse) (d' := 0) (as := [vI 1]) (st := []) 12 1 e_X12_cutIn_1.2.2.2.2.1 (kCVof m_X12_refuse l_X12_93) rfl (by decide) km_0 (by decide) (by decide) rfl rfl (by show (0 : Nat) ≤ 8; decide) ?_
    refine S_X12_refuse ?_
    refine R_eqs (st2 := [vI (-1)]) (σ2 := (kup σ 0 2 1)) rfl rfl ?_
    exact R_ireturn e_X12_cutIn_1.2.2.2.2.2 rfl h
  · replace h := h.2 (kb_t q)
    refine R_aload_n e_X12_cutIn_0.2.2.2.2.1 0 rfl ?_
    refine R_aload_n e_X12_cutIn_0.2.2.2.2.2.1 0 rfl ?_
    refine R_iconst e_X12_cutIn_0.2.2.2.2.2.2.1 ?_
    refine R_iload_n e_X12_cutIn_0.2.2.2.2.2.2.2.1 1 rfl ?_
    refine R_bipush e_X12_cutIn_0.2.2.2.2.2.2.2.2.1 (by decide) ?_
    obtain ⟨q8, h⟩ := h
    refine R_callV (mc := 0) (ms := 0) (mc' := 0) (ms' := 0) (M' := M_X12_hoursTill) (d' := 9) (as := [vI 1, vI l1, vI 99]) (st := [vA G 0]) 12 3 e_X12_cutIn_0.2.2.2.2.2.2.2.2.2 (kCVof m_X12_hoursTill l_X12_425) rfl (by decide) km_0 (by decide) (by decide) rfl rfl (by show (1 : Nat) ≤ 8; decide) ?_
    refine Run.mono (P_X12_hoursTill q8) (fun rr ss e => ?_)
    obtain ⟨e1, e2⟩ := e
    refine R_eqs (st2 := [vI (sTill (fun u => sIn (sSet u (if (1 : Int) = 0 then 2 else 1) : Int) (l1)) ((99 : Int) + 1).toNat 0 (sKeep (σ 1) 3084)), vA G 0]) (σ2 := (kst σ 1 (sKeep (σ 1) 3084))) (by rw [e1]; rfl) e2 ?_
    obtain ⟨q11, h⟩ := h
    refine R_callV (mc := 0) (ms := 0) (mc' := 0) (ms' := 0) (M' := M_X12_orNone) (d' := 1) (as := [vI (sTill (fun u => sIn (sSet u (if (1 : Int) = 0 then 2 else 1) : Int) (l1)) ((99 : Int) + 1).toNat 0 (sKeep (σ 1) 3084))]) (st := []) 12 1 e_X12_cutIn_1.1 (kCVof m_X12_orNone l_X12_358) rfl (by decide) km_0 (by decide) (by decide) rfl rfl (by show (0 : Nat) ≤ 8; decide) ?_
    refine Run.mono (P_X12_orNone q11) (fun rr ss e => ?_)
    obtain ⟨e1, e2⟩ := e
    refine R_eqs (st2 := [vI (sTill (fun u => sIn (sSet u (if (1 : Int) = 0 then 2 else 1) : Int) (l1)) ((99 : Int) + 1).toNat 0 (sKeep (σ 1) 3084))]) (σ2 := (kup (kst σ 1 (sKeep (σ 1) 3084)) 0 2 (kif (((sTill (fun u => sIn (sSet u (if (1 : Int) = 0 then 2 else 1) : Int) (l1)) ((99 : Int) + 1).toNat 0 (sKeep (σ 1) 3084)) : Int) = -1) 6 0))) (by rw [e1]; rfl) e2 ?_
    refine R_goto 28 e_X12_cutIn_1.2.1 (by decide) ?_
    exact R_ireturn e_X12_cutIn_1.2.2.2.2.2 rfl h
/-! KiteLandModel.leaseOf(IIII)I -/
theorem e_X12_leaseOf_0 : decode cX12_leaseOf 0 = .ok (.aload_n 0, 1) ∧ decode cX12_leaseOf 1 = .ok (.iload_n 1, 1) ∧ decode cX12_leaseOf 2 = .ok (.iload_n 2, 1) ∧ decode cX12_leaseOf 3 = .ok (.invokevirtual 355, 3) ∧ decode cX12_leaseOf 6 = .ok (.ifCond .eq 19, 3) ∧ decode cX12_leaseOf 9 = .ok (.aload_n 0, 1) ∧ decode cX12_leaseOf 10 = .ok (.iload_n 3, 1) ∧ decode cX12_leaseOf 11 = .ok (.invokevirtual 343, 3) ∧ decode cX12_leaseOf 14 = .ok (.ifCond .eq 11, 3) ∧ decode cX12_leaseOf 17 = .ok (.iload 4, 2) := by decide +kernel
theorem e_X12_leaseOf_1 : decode cX12_leaseOf 19 = .ok (.invokestatic 428, 3) ∧ decode cX12_leaseOf 22 = .ok (.ifCond .ne 9, 3) ∧ decode cX12_leaseOf 25 = .ok (.aload_n 0, 1) ∧ decode cX12_leaseOf 26 = .ok (.iconst 1, 1) ∧ decode cX12_leaseOf 27 = .ok (.invokevirtual 93, 3) ∧ decode cX12_leaseOf 30 = .ok (.ireturn, 1) ∧ decode cX12_leaseOf 31 = .ok (.aload_n 0, 1) ∧ decode cX12_leaseOf 32 = .ok (.iload 4, 2) ∧ decode cX12_leaseOf 34 = .ok (.iload_n 3, 1) ∧ decode cX12_leaseOf 35 = .ok (.invokevirtual 431, 3) := by decide +kernel
theorem e_X12_leaseOf_2 : decode cX12_leaseOf 38 = .ok (.aload_n 0, 1) ∧ decode cX12_leaseOf 39 = .ok (.aload_n 0, 1) ∧ decode cX12_leaseOf 40 = .ok (.getfield 47, 3) ∧ decode cX12_leaseOf 43 = .ok (.bipush 10, 2) ∧ decode cX12_leaseOf 45 = .ok (.iload_n 2, 1) ∧ decode cX12_leaseOf 46 = .ok (.imul, 1) ∧ decode cX12_leaseOf 47 = .ok (.iload_n 1, 1) ∧ decode cX12_leaseOf 48 = .ok (.iadd, 1) ∧ decode cX12_leaseOf 49 = .ok (.iaload, 1) ∧ decode cX12_leaseOf 50 = .ok (.invokevirtual 97, 3) := by decide +kernel
theorem e_X12_leaseOf_3 : decode cX12_leaseOf 53 = .ok (.ireturn, 1) := by decide +kernel
theorem S_X12_leaseOf {G : Kg} {σ : Kmem} {Q : Int → Kmem → Prop} {l1 l2 l3 l4 : Int}  (h : ((rI (l1) ∧ rI (l2)) ∧ wf (σ 1)) ∧ ((¬ (sFld (σ 1) (l1) (l2)) → Q (-1) (kup σ 0 2 1)) ∧ ((sFld (σ 1) (l1) (l2)) → (rI l3 ∧ wf (σ 1)) ∧ ((¬ (sKt (σ 1) (l3)) → Q (-1) (kup σ 0 2 1)) ∧ ((sKt (σ 1) (l3)) → (rI (l4)) ∧ ((((0 : Int) ≤ l4 ∧ (l4 : Int) ≤ 99) → (wf (σ 1) ∧ (σ 1) 7 ≤ 20000 ∧ ((0 : Int) ≤ l4 ∧ (l4 : Int) ≤ 1000) ∧ rI (l3)) ∧ (0 ≤ (10 * l2) + l1 ∧ (10 * l2) + l1 < 70) ∧ Q ((kst (kst σ 1 (sKeep (σ 1) 3084)) 9 (sLaid (sKeep (σ 1) 3084) (σ 9) (l3) (l4 : Int).toNat)) 9 ((10 * l2) + l1)) (kup (kst (kst σ 1 (sKeep (σ 1) 3084)) 9 (sLaid (sKeep (σ 1) 3084) (σ 9) (l3) (l4 : Int).toNat)) 0 2 0)) ∧ (¬ ((0 : Int) ≤ l4 ∧ (l4 : Int) ≤ 99) → Q (-1) (kup σ 0 2 1)))))))) : Run G WM M_X12_leaseOf 9 0 0 [vA G 0, vI l1, vI l2, vI l3, vI l4] σ Q := by
  refine Run.of (by decide +kernel) (by show (5 : Nat) ≤ 5; decide) ?_
  show Ex G WM M_X12_leaseOf 9 0 0 0 [(0, vA G 0), (1, vI l1), (2, vI l2), (3, vI l3), (4, vI l4)] [] σ Q
  refine R_aload_n e_X12_leaseOf_0.1 0 rfl ?_
  refine R_iload_n e_X12_leaseOf_0.2.1 1 rfl ?_
  refine R_iload_n e_X12_leaseOf_0.2.2.1 2 rfl ?_
  obtain ⟨q3, h⟩ := h
  refine R_callV (mc := 0) (ms := 0) (mc' := 0) (ms' := 0) (M' := M_X12_isField) (d' := 0) (as := [vI l1, vI l2]) (st := []) 12 2 e_X12_leaseOf_0.2.2.2.1 (kCVof m_X12_isField l_X12_355) rfl (by decide) km_0 (by decide) (by decide) rfl rfl (by show (0 : Nat) ≤ 8; decide) ?_
  refine Run.mono (P_X12_isField q3) (fun rr ss e => ?_)
  obtain ⟨e1, e2⟩ := e
  refine R_eqs (st2 := [vI (kb (sFld (σ 1) (l1) (l2)))]) (σ2 := σ) (by rw [e1]; rfl) e2 ?_
  refine R_if_eq 25 e_X12_leaseOf_0.2.2.2.2.1 (by decide) (kb_r _) (fun q => ?_) (fun q => ?_)
  · replace h := h.1 (kb_f q)
    refine R_aload_n e_X12_leaseOf_1.2.2.1 0 rfl ?_
    refine R_iconst e_X12_leaseOf_1.2.2.2.1 ?_
    refine R_callV (mc := 0) (ms := 0) (mc' := 0) (ms' := 0) (M' := M_X12_refuse) (d' := 0) (as := [vI 1]) (st := []) 12 1 e_X12_leaseOf_1.2.2.2.2.1 (kCVof m_X12_refuse l_X12_93) rfl (by decide) km_0 (by decide) (by decide) rfl rfl (by show (0 : Nat) ≤ 8; decide) ?_
    refine S_X12_refuse ?_
    refine R_eqs (st2 := [vI (-1)]) (σ2 := (kup σ 0 2 1)) rfl rfl ?_
    exact R_ireturn e_X12_leaseOf_1.2.2.2.2.2.1 rfl h
  · replace h := h.2 (kb_t q)
    refine R_aload_n e_X12_leaseOf_0.2.2.2.2.2.1 0 rfl ?_
    refine R_iload_n e_X12_leaseOf_0.2.2.2.2.2.2.1 3 rfl ?_
    obtain ⟨q8, h⟩ := h
    refine R_callV (mc := 0) (ms := 0) (mc' := 0) (ms' := 0) (M' := M_X12_isKite) (d' := 0) (as := [vI l3]) (st := []) 12 1 e_X12_leaseOf_0.2.2.2.2.2.2.2.1 (kCVof m_X12_isKite l_X12_343) rfl (by decide) km_0 (by decide) (by decide) rfl rfl (by show (0 : Nat) ≤ 8; decide) ?_
    refine Run.mono (P_X12_isKite q8) (fun rr ss e => ?_)
    obtain ⟨e1, e2⟩ := e
    refine R_eqs (st2 := [vI (kb (sKt (σ 1) (l3)))]) (σ2 := σ) (by rw [e1]; rfl) e2 ?_
    refine R_if_eq 25 e_X12_leaseOf_0.2.2.2.2.2.2.2.2.1 (by decide) (kb_r _) (fun q => ?_) (fun q => ?_)
    · replace h := h.1 (kb_f q)
      refine R_aload_n e_X12_leaseOf_1.2.2.1 0 rfl ?_
      refine R_iconst e_X12_leaseOf_1.2.2.2.1 ?_
      refine R_callV (mc := 0) (ms := 0) (mc' := 0) (ms' := 0) (M' := M_X12_refuse) (d' := 0) (as := [vI 1]) (st := []) 12 1 e_X12_leaseOf_1.2.2.2.2.1 (kCVof m_X12_refuse l_X12_93) rfl (by decide) km_0 (by decide) (by decide) rfl rfl (by show (0 : Nat) ≤ 8; decide) ?_
      refine S_X12_refuse ?_
      refine R_eqs (st2 := [vI (-1)]) (σ2 := (kup σ 0 2 1)) rfl rfl ?_
      exact R_ireturn e_X12_leaseOf_1.2.2.2.2.2.1 rfl h
    · replace h := h.2 (kb_t q)
      refine R_iload e_X12_leaseOf_0.2.2.2.2.2.2.2.2.2 4 rfl ?_
      obtain ⟨q13, h⟩ := h
      refine R_callS (mc := 0) (ms := 0) (mc' := 0) (ms' := 0) (M' := M_X12_isSpan) (d' := 1) (as := [vI l4]) (st := []) 1 e_X12_leaseOf_1.1 (kCSof m_X12_isSpan l_X12_428) (by decide) (by decide) rfl rfl (by show (0 : Nat) ≤ 8; decide) ?_
      refine Run.mono (P_X12_isSpan q13) (fun rr ss e => ?_)
      obtain ⟨e1, e2⟩ := e
      refine R_eqs (st2 := [vI (kb ((0 : Int) ≤ l4 ∧ (l4 : Int) ≤ 99))]) (σ2 := σ) (by rw [e1]; rfl) e2 ?_
      refine R_if_ne 31 e_X12_leaseOf_1.2.1 (by decide) (kb_r _) (fun q => ?_) (fun q => ?_)
      · replace h := h.1 (kb_t q)
        refine R_aload_n e_X12_leaseOf_1.2.2.2.2.2.2.1 0 rfl ?_
        refine R_iload e_X12_leaseOf_1.2.2.2.2.2.2.2.1 4 rfl ?_
        refine R_iload_n e_X12_leaseOf_1.2.2.2.2.2.2.2.2.1 3 rfl ?_
        obtain ⟨q16, h⟩ := h
        refine R_callV (mc := 0) (ms := 0) (mc' := 0) (ms' := 0) (M' := M_X12_laysHours) (d' := 8) (as := [vI l4, vI l3]) (st := []) 12 2 e_X12_leaseOf_1.2.2.2.2.2.2.2.2.2 (kCVof m_X12_laysHours l_X12_431) rfl (by decide) km_0 (by decide) (by decide) rfl rfl (by show (0 : Nat) ≤ 8; decide) ?_
        refine Run.mono (P_X12_laysHours q16) (fun rr ss e => ?_)
        obtain ⟨e1, e2⟩ := e
        refine R_eqs (st2 := []) (σ2 := (kst (kst σ 1 (sKeep (σ 1) 3084)) 9 (sLaid (sKeep (σ 1) 3084) (σ 9) (l3) (l4 : Int).toNat))) (by rfl) e2 ?_
        refine R_aload_n e_X12_leaseOf_2.1 0 rfl ?_
        refine R_aload_n e_X12_leaseOf_2.2.1 0 rfl ?_
        refine R_getA 12 24 9 e_X12_leaseOf_2.2.2.1 f_X12_47 km_0 (fun _ _ => rfl) rm_0_24 (by decide) ?_
        refine R_bipush e_X12_leaseOf_2.2.2.2.1 (by decide) ?_
        refine R_iload_n e_X12_leaseOf_2.2.2.2.2.1 2 rfl ?_
        refine R_imul e_X12_leaseOf_2.2.2.2.2.2.1 ?_
        refine R_iload_n e_X12_leaseOf_2.2.2.2.2.2.2.1 1 rfl ?_
        refine R_iadd e_X12_leaseOf_2.2.2.2.2.2.2.2.1 ?_
        obtain ⟨q17, h⟩ := h
        refine R_iald 70 e_X12_leaseOf_2.2.2.2.2.2.2.2.2.1 kma_9 q17 ?_
        refine R_callV (mc := 0) (ms := 0) (mc' := 0) (ms' := 0) (M' := M_X12_gives) (d' := 0) (as := [vI ((kst (kst σ 1 (sKeep (σ 1) 3084)) 9 (sLaid (sKeep (σ 1) 3084) (σ 9) (l3) (l4 : Int).toNat)) 9 ((10 * l2) + l1))]) (st := []) 12 1 e_X12_leaseOf_2.2.2.2.2.2.2.2.2.2 (kCVof m_X12_gives l_X12_97) rfl (by decide) km_0 (by decide) (by decide) rfl rfl (by show (0 : Nat) ≤ 8; decide) ?_
        refine S_X12_gives ?_
        refine R_eqs (st2 := [vI ((kst (kst σ 1 (sKeep (σ 1) 3084)) 9 (sLaid (sKeep (σ 1) 3084) (σ 9) (l3) (l4 : Int).toNat)) 9 ((10 * l2) + l1))]) (σ2 := (kup (kst (kst σ 1 (sKeep (σ 1) 3084)) 9 (sLaid (sKeep (σ 1) 3084) (σ 9) (l3) (l4 : Int).toNat)) 0 2 0)) rfl rfl ?_
        exact R_ireturn e_X12_leaseOf_3 rfl h
      · replace h := h.2 (kb_f q)
        refine R_aload_n e_X12_leaseOf_1.2.2.1 0 rfl ?_
        refine R_iconst e_X12_leaseOf_1.2.2.2.1 ?_
        refine R_callV (mc := 0) (ms := 0) (mc' := 0) (ms' := 0) (M' := M_X12_refuse) (d' := 0) (as := [vI 1]) (st := []) 12 1 e_X12_leaseOf_1.2.2.2.2.1 (kCVof m_X12_refuse l_X12_93) rfl (by decide) km_0 (by decide) (by decide) rfl rfl (by show (0 : Nat) ≤ 8; decide) ?_
        refine S_X12_refuse ?_
        refine R_eqs (st2 := [vI (-1)]) (σ2 := (kup σ 0 2 1)) rfl rfl ?_
        exact R_ireturn e_X12_leaseOf_1.2.2.2.2.2.1 rfl h
/-! KiteLandModel.plant(I)I -/
theorem e_X12_plant_0 : decode cX12_plant 0 = .ok (.iload_n 1, 1) ∧ decode cX12_plant 1 = .ok (.i2l, 1) ∧ decode cX12_plant 2 = .ok (.lconst 1, 1) ∧ decode cX12_plant 3 = .ok (.ldc2_w 391, 3) ∧ decode cX12_plant 6 = .ok (.invokestatic 393, 3) ∧ decode cX12_plant 9 = .ok (.ifCond .eq 15, 3) ∧ decode cX12_plant 12 = .ok (.aload_n 0, 1) ∧ decode cX12_plant 13 = .ok (.aload_n 0, 1) ∧ decode cX12_plant 14 = .ok (.iload_n 1, 1) ∧ decode cX12_plant 15 = .ok (.invokevirtual 434, 3) := by decide +kernel
theorem e_X12_plant_1 : decode cX12_plant 18 = .ok (.invokevirtual 358, 3) ∧ decode cX12_plant 21 = .ok (.goto 8, 3) ∧ decode cX12_plant 24 = .ok (.aload_n 0, 1) ∧ decode cX12_plant 25 = .ok (.iconst 1, 1) ∧ decode cX12_plant 26 = .ok (.invokevirtual 93, 3) ∧ decode cX12_plant 29 = .ok (.ireturn, 1) := by decide +kernel
theorem S_X12_plant {G : Kg} {σ : Kmem} {Q : Int → Kmem → Prop} {l1 : Int}  (h : (rI l1) ∧ (rL l1 ∧ rL 1 ∧ rL 99) ∧ ((¬ ((1 : Int) ≤ l1 ∧ (l1 : Int) ≤ 99) → Q (-1) (kup σ 0 2 1)) ∧ (((1 : Int) ≤ l1 ∧ (l1 : Int) ≤ 99) → Run G WM M_X12_plantOf 9 0 0 [vA G 0, vI l1] σ (fun r7 s8 => (rI (r7)) ∧ Q r7 (kup s8 0 2 (kif ((r7 : Int) = -1) 6 0)))))) : Run G WM M_X12_plant 10 0 0 [vA G 0, vI l1] σ Q := by
  refine Run.of (by decide +kernel) (by show (2 : Nat) ≤ 2; decide) ?_
  show Ex G WM M_X12_plant 10 0 0 0 [(0, vA G 0), (1, vI l1)] [] σ Q
  refine R_iload_n e_X12_plant_0.1 1 rfl ?_
  obtain ⟨q1, h⟩ := h
  refine R_i2l e_X12_plant_0.2.1 q1 ?_
  refine R_lconst 1 e_X12_plant_0.2.2.1 (by decide) ?_
  refine R_ldc2 (99) k_X12_391 e_X12_plant_0.2.2.2.1 ?_
  obtain ⟨q4, h⟩ := h
  refine R_callS (mc := 0) (ms := 0) (mc' := 0) (ms' := 0) (M' := M_X12_isFrom) (d' := 0) (as := [vL l1, vL 1, vL 99]) (st := []) 3 e_X12_plant_0.2.2.2.2.1 (kCSof m_X12_isFrom l_X12_393) (by decide) (by decide) rfl rfl (by show (0 : Nat) ≤ 8; decide) ?_
  refine Run.mono (P_X12_isFrom q4) (fun rr ss e => ?_)
  obtain ⟨e1, e2⟩ := e
  refine R_eqs (st2 := [vI (kb ((1 : Int) ≤ l1 ∧ (l1 : Int) ≤ 99))]) (σ2 := σ) (by rw [e1]; rfl) e2 ?_
  refine R_if_eq 24 e_X12_plant_0.2.2.2.2.2.1 (by decide) (kb_r _) (fun q => ?_) (fun q => ?_)
  · replace h := h.1 (kb_f q)
    refine R_aload_n e_X12_plant_1.2.2.1 0 rfl ?_
    refine R_iconst e_X12_plant_1.2.2.2.1 ?_
    refine R_callV (mc := 0) (ms := 0) (mc' := 0) (ms' := 0) (M' := M_X12_refuse) (d' := 0) (as := [vI 1]) (st := []) 12 1 e_X12_plant_1.2.2.2.2.1 (kCVof m_X12_refuse l_X12_93) rfl (by decide) km_0 (by decide) (by decide) rfl rfl (by show (0 : Nat) ≤ 8; decide) ?_
    refine S_X12_refuse ?_
    refine R_eqs (st2 := [vI (-1)]) (σ2 := (kup σ 0 2 1)) rfl rfl ?_
    exact R_ireturn e_X12_plant_1.2.2.2.2.2 rfl h
  · replace h := h.2 (kb_t q)
    refine R_aload_n e_X12_plant_0.2.2.2.2.2.2.1 0 rfl ?_
    refine R_aload_n e_X12_plant_0.2.2.2.2.2.2.2.1 0 rfl ?_
    refine R_iload_n e_X12_plant_0.2.2.2.2.2.2.2.2.1 1 rfl ?_
    refine R_callV (mc := 0) (ms := 0) (mc' := 0) (ms' := 0) (M' := M_X12_plantOf) (d' := 9) (as := [vI l1]) (st := [vA G 0]) 12 1 e_X12_plant_0.2.2.2.2.2.2.2.2.2 (kCVof m_X12_plantOf l_X12_434) rfl (by decide) km_0 (by decide) (by decide) rfl rfl (by show (1 : Nat) ≤ 8; decide) ?_
    refine Run.mono h (fun r7 s8 h => ?_)
    refine R_eqs (st2 := [vI r7, vA G 0]) rfl rfl ?_
    obtain ⟨q11, h⟩ := h
    refine R_callV (mc := 0) (ms := 0) (mc' := 0) (ms' := 0) (M' := M_X12_orNone) (d' := 1) (as := [vI r7]) (st := []) 12 1 e_X12_plant_1.1 (kCVof m_X12_orNone l_X12_358) rfl (by decide) km_0 (by decide) (by decide) rfl rfl (by show (0 : Nat) ≤ 8; decide) ?_
    refine Run.mono (P_X12_orNone q11) (fun rr ss e => ?_)
    obtain ⟨e1, e2⟩ := e
    refine R_eqs (st2 := [vI r7]) (σ2 := (kup s8 0 2 (kif ((r7 : Int) = -1) 6 0))) (by rw [e1]; rfl) e2 ?_
    refine R_goto 29 e_X12_plant_1.2.1 (by decide) ?_
    exact R_ireturn e_X12_plant_1.2.2.2.2.2 rfl h
/-! KiteLandModel.planted(I)I -/
theorem e_X12_planted_0 : decode cX12_planted 0 = .ok (.iload_n 1, 1) ∧ decode cX12_planted 1 = .ok (.i2l, 1) ∧ decode cX12_planted 2 = .ok (.lconst 1, 1) ∧ decode cX12_planted 3 = .ok (.ldc2_w 391, 3) ∧ decode cX12_planted 6 = .ok (.invokestatic 393, 3) ∧ decode cX12_planted 9 = .ok (.ifCond .ne 9, 3) ∧ decode cX12_planted 12 = .ok (.aload_n 0, 1) ∧ decode cX12_planted 13 = .ok (.iconst 1, 1) ∧ decode cX12_planted 14 = .ok (.invokevirtual 93, 3) ∧ decode cX12_planted 17 = .ok (.ireturn, 1) := by decide +kernel
theorem e_X12_planted_1 : decode cX12_planted 18 = .ok (.aload_n 0, 1) ∧ decode cX12_planted 19 = .ok (.iload_n 1, 1) ∧ decode cX12_planted 20 = .ok (.invokevirtual 434, 3) ∧ decode cX12_planted 23 = .ok (.istore_n 2, 1) ∧ decode cX12_planted 24 = .ok (.iload_n 2, 1) ∧ decode cX12_planted 25 = .ok (.iconst (-1), 1) ∧ decode cX12_planted 26 = .ok (.if_icmp .ne 12, 3) ∧ decode cX12_planted 29 = .ok (.aload_n 0, 1) ∧ decode cX12_planted 30 = .ok (.bipush 6, 2) ∧ decode cX12_planted 32 = .ok (.invokevirtual 93, 3) := by decide +kernel
theorem e_X12_planted_2 : decode cX12_planted 35 = .ok (.goto 13, 3) ∧ decode cX12_planted 38 = .ok (.aload_n 0, 1) ∧ decode cX12_planted 39 = .ok (.aload_n 0, 1) ∧ decode cX12_planted 40 = .ok (.getfield 47, 3) ∧ decode cX12_planted 43 = .ok (.iload_n 2, 1) ∧ decode cX12_planted 44 = .ok (.iaload, 1) ∧ decode cX12_planted 45 = .ok (.invokevirtual 97, 3) ∧ decode cX12_planted 48 = .ok (.ireturn, 1) := by decide +kernel
theorem S_X12_planted {G : Kg} {σ : Kmem} {Q : Int → Kmem → Prop} {l1 : Int}  (h : (rI l1) ∧ (rL l1 ∧ rL 1 ∧ rL 99) ∧ ((((1 : Int) ≤ l1 ∧ (l1 : Int) ≤ 99) → Run G WM M_X12_plantOf 9 0 0 [vA G 0, vI l1] σ (fun r5 s6 => (rI r5) ∧ ((r5 ≠ -1 → (0 ≤ r5 ∧ r5 < 70) ∧ Q (s6 9 r5) (kup s6 0 2 0)) ∧ (r5 = -1 → Q (-1) (kup s6 0 2 6))))) ∧ (¬ ((1 : Int) ≤ l1 ∧ (l1 : Int) ≤ 99) → Q (-1) (kup σ 0 2 1)))) : Run G WM M_X12_planted 10 0 0 [vA G 0, vI l1] σ Q := by
  refine Run.of (by decide +kernel) (by show (2 : Nat) ≤ 3; decide) ?_
  show Ex G WM M_X12_planted 10 0 0 0 [(0, vA G 0), (1, vI l1)] [] σ Q
  refine R_iload_n e_X12_planted_0.1 1 rfl ?_
  obtain ⟨q1, h⟩ := h
  refine R_i2l e_X12_planted_0.2.1 q1 ?_
  refine R_lconst 1 e_X12_planted_0.2.2.1 (by decide) ?_
  refine R_ldc2 (99) k_X12_391 e_X12_planted_0.2.2.2.1 ?_
  obtain ⟨q4, h⟩ := h
  refine R_callS (mc := 0) (ms := 0) (mc' := 0) (ms' := 0) (M' := M_X12_isFrom) (d' := 0) (as := [vL l1, vL 1, vL 99]) (st := []) 3 e_X12_planted_0.2.2.2.2.1 (kCSof m_X12_isFrom l_X12_393) (by decide) (by decide) rfl rfl (by show (0 : Nat) ≤ 8; decide) ?_
  refine Run.mono (P_X12_isFrom q4) (fun rr ss e => ?_)
  obtain ⟨e1, e2⟩ := e
  refine R_eqs (st2 := [vI (kb ((1 : Int) ≤ l1 ∧ (l1 : Int) ≤ 99))]) (σ2 := σ) (by rw [e1]; rfl) e2 ?_
  refine R_if_ne 18 e_X12_planted_0.2.2.2.2.2.1 (by decide) (kb_r _) (fun q => ?_) (fun q => ?_)
  · replace h := h.1 (kb_t q)
    refine R_aload_n e_X12_planted_1.1 0 rfl ?_
    refine R_iload_n e_X12_planted_1.2.1 1 rfl ?_
    refine R_callV (mc := 0) (ms := 0) (mc' := 0) (ms' := 0) (M' := M_X12_plantOf) (d' := 9) (as := [vI l1]) (st := []) 12 1 e_X12_planted_1.2.2.1 (kCVof m_X12_plantOf l_X12_434) rfl (by decide) km_0 (by decide) (by decide) rfl rfl (by show (0 : Nat) ≤ 8; decide) ?_
    refine Run.mono h (fun r5 s6 h => ?_)
    refine R_eqs (st2 := [vI r5]) rfl rfl ?_
    refine R_istore_n (ls2 := [(2, vI r5), (0, vA G 0), (1, vI l1)]) e_X12_planted_1.2.2.2.1 (by decide) rfl ?_
    refine R_iload_n e_X12_planted_1.2.2.2.2.1 0 rfl ?_
    refine R_iconst e_X12_planted_1.2.2.2.2.2.1 ?_
    obtain ⟨q7, h⟩ := h
    refine R_icmp_ne 38 e_X12_planted_1.2.2.2.2.2.2.1 (by decide) q7 (by decide) (fun q => ?_) (fun q => ?_)
    · replace h := h.1 q
      refine R_aload_n e_X12_planted_2.2.1 1 rfl ?_
      refine R_aload_n e_X12_planted_2.2.2.1 1 rfl ?_
      refine R_getA 12 24 9 e_X12_planted_2.2.2.2.1 f_X12_47 km_0 (fun _ _ => rfl) rm_0_24 (by decide) ?_
      refine R_iload_n e_X12_planted_2.2.2.2.2.1 0 rfl ?_
      obtain ⟨q8, h⟩ := h
      refine R_iald 70 e_X12_planted_2.2.2.2.2.2.1 kma_9 q8 ?_
      refine R_callV (mc := 0) (ms := 0) (mc' := 0) (ms' := 0) (M' := M_X12_gives) (d' := 0) (as := [vI (s6 9 r5)]) (st := []) 12 1 e_X12_planted_2.2.2.2.2.2.2.1 (kCVof m_X12_gives l_X12_97) rfl (by decide) km_0 (by decide) (by decide) rfl rfl (by show (0 : Nat) ≤ 8; decide) ?_
      refine S_X12_gives ?_
      refine R_eqs (st2 := [vI (s6 9 r5)]) (σ2 := (kup s6 0 2 0)) rfl rfl ?_
      exact R_ireturn e_X12_planted_2.2.2.2.2.2.2.2 rfl h
    · replace h := h.2 q
      refine R_aload_n e_X12_planted_1.2.2.2.2.2.2.2.1 1 rfl ?_
      refine R_bipush e_X12_planted_1.2.2.2.2.2.2.2.2.1 (by decide) ?_
      refine R_callV (mc := 0) (ms := 0) (mc' := 0) (ms' := 0) (M' := M_X12_refuse) (d' := 0) (as := [vI 6]) (st := []) 12 1 e_X12_planted_1.2.2.2.2.2.2.2.2.2 (kCVof m_X12_refuse l_X12_93) rfl (by decide) km_0 (by decide) (by decide) rfl rfl (by show (0 : Nat) ≤ 8; decide) ?_
      refine S_X12_refuse ?_
      refine R_eqs (st2 := [vI (-1)]) (σ2 := (kup s6 0 2 6)) rfl rfl ?_
      refine R_goto 48 e_X12_planted_2.1 (by decide) ?_
      exact R_ireturn e_X12_planted_2.2.2.2.2.2.2.2 rfl h
  · replace h := h.2 (kb_f q)
    refine R_aload_n e_X12_planted_0.2.2.2.2.2.2.1 0 rfl ?_
    refine R_iconst e_X12_planted_0.2.2.2.2.2.2.2.1 ?_
    refine R_callV (mc := 0) (ms := 0) (mc' := 0) (ms' := 0) (M' := M_X12_refuse) (d' := 0) (as := [vI 1]) (st := []) 12 1 e_X12_planted_0.2.2.2.2.2.2.2.2.1 (kCVof m_X12_refuse l_X12_93) rfl (by decide) km_0 (by decide) (by decide) rfl rfl (by show (0 : Nat) ≤ 8; decide) ?_
    refine S_X12_refuse ?_
    refine R_eqs (st2 := [vI (-1)]) (σ2 := (kup σ 0 2 1)) rfl rfl ?_
    exact R_ireturn e_X12_planted_0.2.2.2.2.2.2.2.2.2 rfl h
/-! KiteLandModel.purseIn(II)I -/
theorem e_X12_purseIn_0 : decode cX12_purseIn 0 = .ok (.aload_n 0, 1) ∧ decode cX12_purseIn 1 = .ok (.iload_n 1, 1) ∧ decode cX12_purseIn 2 = .ok (.invokevirtual 343, 3) ∧ decode cX12_purseIn 5 = .ok (.ifCond .eq 10, 3) ∧ decode cX12_purseIn 8 = .ok (.iload_n 2, 1) ∧ decode cX12_purseIn 9 = .ok (.invokestatic 428, 3) ∧ decode cX12_purseIn 12 = .ok (.ifCond .ne 9, 3) ∧ decode cX12_purseIn 15 = .ok (.aload_n 0, 1) ∧ decode cX12_purseIn 16 = .ok (.iconst 1, 1) ∧ decode cX12_purseIn 17 = .ok (.invokevirtual 93, 3) := by decide +kernel
theorem e_X12_purseIn_1 : decode cX12_purseIn 20 = .ok (.ireturn, 1) ∧ decode cX12_purseIn 21 = .ok (.aload_n 0, 1) ∧ decode cX12_purseIn 22 = .ok (.sipush 3084, 3) ∧ decode cX12_purseIn 25 = .ok (.invokevirtual 419, 3) ∧ decode cX12_purseIn 28 = .ok (.aload_n 0, 1) ∧ decode cX12_purseIn 29 = .ok (.iload_n 2, 1) ∧ decode cX12_purseIn 30 = .ok (.invokevirtual 437, 3) ∧ decode cX12_purseIn 33 = .ok (.aload_n 0, 1) ∧ decode cX12_purseIn 34 = .ok (.iload_n 1, 1) ∧ decode cX12_purseIn 35 = .ok (.iconst 5, 1) := by decide +kernel
theorem e_X12_purseIn_2 : decode cX12_purseIn 36 = .ok (.invokevirtual 268, 3) ∧ decode cX12_purseIn 39 = .ok (.istore_n 3, 1) ∧ decode cX12_purseIn 40 = .ok (.aload_n 0, 1) ∧ decode cX12_purseIn 41 = .ok (.sipush 3084, 3) ∧ decode cX12_purseIn 44 = .ok (.invokevirtual 422, 3) ∧ decode cX12_purseIn 47 = .ok (.aload_n 0, 1) ∧ decode cX12_purseIn 48 = .ok (.iload_n 3, 1) ∧ decode cX12_purseIn 49 = .ok (.invokevirtual 97, 3) ∧ decode cX12_purseIn 52 = .ok (.ireturn, 1) := by decide +kernel
theorem S_X12_purseIn {G : Kg} {σ : Kmem} {Q : Int → Kmem → Prop} {l1 l2 : Int}  (h : (rI l1 ∧ wf (σ 1)) ∧ ((¬ (sKt (σ 1) (l1)) → Q (-1) (kup σ 0 2 1)) ∧ ((sKt (σ 1) (l1)) → (rI (l2)) ∧ ((((0 : Int) ≤ l2 ∧ (l2 : Int) ≤ 99) → ((150 : Int) ≤ 3084 ∧ (3084 : Int) ≤ 3448) ∧ (wf ((kst σ 1 (sKeep (σ 1) (3084))) 1) ∧ ((kst σ 1 (sKeep (σ 1) (3084))) 1) 7 ≤ 20000 ∧ ((0 : Int) ≤ l2 ∧ (l2 : Int) ≤ 1000)) ∧ (0 ≤ (34 + (9 * l1)) + 5 ∧ (34 + (9 * l1)) + 5 < 3598) ∧ ((150 : Int) ≤ 3084 ∧ (3084 : Int) ≤ 3448) ∧ Q ((kst (kst σ 1 (sKeep (σ 1) (3084))) 1 (sHours ((kst σ 1 (sKeep (σ 1) (3084))) 1) (l2 : Int).toNat)) 1 ((34 + (9 * l1)) + 5)) (kup (kst (kst (kst σ 1 (sKeep (σ 1) (3084))) 1 (sHours ((kst σ 1 (sKeep (σ 1) (3084))) 1) (l2 : Int).toNat)) 1 (sRest ((kst (kst σ 1 (sKeep (σ 1) (3084))) 1 (sHours ((kst σ 1 (sKeep (σ 1) (3084))) 1) (l2 : Int).toNat)) 1) (3084))) 0 2 0)) ∧ (¬ ((0 : Int) ≤ l2 ∧ (l2 : Int) ≤ 99) → Q (-1) (kup σ 0 2 1)))))) : Run G WM M_X12_purseIn 10 0 0 [vA G 0, vI l1, vI l2] σ Q := by
  refine Run.of (by decide +kernel) (by show (3 : Nat) ≤ 4; decide) ?_
  show Ex G WM M_X12_purseIn 10 0 0 0 [(0, vA G 0), (1, vI l1), (2, vI l2)] [] σ Q
  refine R_aload_n e_X12_purseIn_0.1 0 rfl ?_
  refine R_iload_n e_X12_purseIn_0.2.1 1 rfl ?_
  obtain ⟨q3, h⟩ := h
  refine R_callV (mc := 0) (ms := 0) (mc' := 0) (ms' := 0) (M' := M_X12_isKite) (d' := 0) (as := [vI l1]) (st := []) 12 1 e_X12_purseIn_0.2.2.1 (kCVof m_X12_isKite l_X12_343) rfl (by decide) km_0 (by decide) (by decide) rfl rfl (by show (0 : Nat) ≤ 8; decide) ?_
  refine Run.mono (P_X12_isKite q3) (fun rr ss e => ?_)
  obtain ⟨e1, e2⟩ := e
  refine R_eqs (st2 := [vI (kb (sKt (σ 1) (l1)))]) (σ2 := σ) (by rw [e1]; rfl) e2 ?_
  refine R_if_eq 15 e_X12_purseIn_0.2.2.2.1 (by decide) (kb_r _) (fun q => ?_) (fun q => ?_)
  · replace h := h.1 (kb_f q)
    refine R_aload_n e_X12_purseIn_0.2.2.2.2.2.2.2.1 0 rfl ?_
    refine R_iconst e_X12_purseIn_0.2.2.2.2.2.2.2.2.1 ?_
    refine R_callV (mc := 0) (ms := 0) (mc' := 0) (ms' := 0) (M' := M_X12_refuse) (d' := 0) (as := [vI 1]) (st := []) 12 1 e_X12_purseIn_0.2.2.2.2.2.2.2.2.2 (kCVof m_X12_refuse l_X12_93) rfl (by decide) km_0 (by decide) (by decide) rfl rfl (by show (0 : Nat) ≤ 8; decide) ?_
    refine S_X12_refuse ?_
    refine R_eqs (st2 := [vI (-1)]) (σ2 := (kup σ 0 2 1)) rfl rfl ?_
    exact R_ireturn e_X12_purseIn_1.1 rfl h
  · replace h := h.2 (kb_t q)
    refine R_iload_n e_X12_purseIn_0.2.2.2.2.1 2 rfl ?_
    obtain ⟨q8, h⟩ := h
    refine R_callS (mc := 0) (ms := 0) (mc' := 0) (ms' := 0) (M' := M_X12_isSpan) (d' := 1) (as := [vI l2]) (st := []) 1 e_X12_purseIn_0.2.2.2.2.2.1 (kCSof m_X12_isSpan l_X12_428) (by decide) (by decide) rfl rfl (by show (0 : Nat) ≤ 8; decide) ?_
    refine Run.mono (P_X12_isSpan q8) (fun rr ss e => ?_)
    obtain ⟨e1, e2⟩ := e
    refine R_eqs (st2 := [vI (kb ((0 : Int) ≤ l2 ∧ (l2 : Int) ≤ 99))]) (σ2 := σ) (by rw [e1]; rfl) e2 ?_
    refine R_if_ne 21 e_X12_purseIn_0.2.2.2.2.2.2.1 (by decide) (kb_r _) (fun q => ?_) (fun q => ?_)
    · replace h := h.1 (kb_t q)
      refine R_aload_n e_X12_purseIn_1.2.1 0 rfl ?_
      refine R_sipush e_X12_purseIn_1.2.2.1 (by decide) ?_
      obtain ⟨q11, h⟩ := h
      refine R_callV (mc := 0) (ms := 0) (mc' := 0) (ms' := 0) (M' := M_X12_keeps) (d' := 0) (as := [vI 3084]) (st := []) 12 1 e_X12_purseIn_1.2.2.2.1 (kCVof m_X12_keeps l_X12_419) rfl (by decide) km_0 (by decide) (by decide) rfl rfl (by show (0 : Nat) ≤ 8; decide) ?_
      refine Run.mono (P_X12_keeps q11) (fun rr ss e => ?_)
      obtain ⟨e1, e2⟩ := e
      refine R_eqs (st2 := []) (σ2 := (kst σ 1 (sKeep (σ 1) (3084)))) (by rfl) e2 ?_
      refine R_aload_n e_X12_purseIn_1.2.2.2.2.1 0 rfl ?_
      refine R_iload_n e_X12_purseIn_1.2.2.2.2.2.1 2 rfl ?_
      obtain ⟨q14, h⟩ := h
      refine R_callV (mc := 0) (ms := 0) (mc' := 0) (ms' := 0) (M' := M_X12_goesOn) (d' := 9) (as := [vI l2]) (st := []) 12 1 e_X12_purseIn_1.2.2.2.2.2.2.1 (kCVof m_X12_goesOn l_X12_437) rfl (by decide) km_0 (by decide) (by decide) rfl rfl (by show (0 : Nat) ≤ 8; decide) ?_
      refine Run.mono (P_X12_goesOn q14) (fun rr ss e => ?_)
      obtain ⟨e1, e2⟩ := e
      refine R_eqs (st2 := []) (σ2 := (kst (kst σ 1 (sKeep (σ 1) (3084))) 1 (sHours ((kst σ 1 (sKeep (σ 1) (3084))) 1) (l2 : Int).toNat))) (by rfl) e2 ?_
      refine R_aload_n e_X12_purseIn_1.2.2.2.2.2.2.2.1 0 rfl ?_
      refine R_iload_n e_X12_purseIn_1.2.2.2.2.2.2.2.2.1 1 rfl ?_
      refine R_iconst e_X12_purseIn_1.2.2.2.2.2.2.2.2.2 ?_
      refine R_callV (mc := 0) (ms := 0) (mc' := 0) (ms' := 0) (M' := M_X12_of) (d' := 1) (as := [vI l1, vI 5]) (st := []) 12 2 e_X12_purseIn_2.1 (kCVof m_X12_of l_X12_268) rfl (by decide) km_0 (by decide) (by decide) rfl rfl (by show (0 : Nat) ≤ 8; decide) ?_
      obtain ⟨q19, h⟩ := h
      refine S_X12_of ⟨q19, ?_⟩
      refine R_eqs (st2 := [vI ((kst (kst σ 1 (sKeep (σ 1) (3084))) 1 (sHours ((kst σ 1 (sKeep (σ 1) (3084))) 1) (l2 : Int).toNat)) 1 ((34 + (9 * l1)) + 5))]) (σ2 := (kst (kst σ 1 (sKeep (σ 1) (3084))) 1 (sHours ((kst σ 1 (sKeep (σ 1) (3084))) 1) (l2 : Int).toNat))) rfl rfl ?_
      refine R_istore_n (ls2 := [(3, vI ((kst (kst σ 1 (sKeep (σ 1) (3084))) 1 (sHours ((kst σ 1 (sKeep (σ 1) (3084))) 1) (l2 : Int).toNat)) 1 ((34 + (9 * l1)) + 5))), (0, vA G 0), (1, vI l1), (2, vI l2)]) e_X12_purseIn_2.2.1 (by decide) rfl ?_
      refine R_aload_n e_X12_purseIn_2.2.2.1 1 rfl ?_
      refine R_sipush e_X12_purseIn_2.2.2.2.1 (by decide) ?_
      obtain ⟨q22, h⟩ := h
      refine R_callV (mc := 0) (ms := 0) (mc' := 0) (ms' := 0) (M' := M_X12_restores) (d' := 0) (as := [vI 3084]) (st := []) 12 1 e_X12_purseIn_2.2.2.2.2.1 (kCVof m_X12_restores l_X12_422) rfl (by decide) km_0 (by decide) (by decide) rfl rfl (by show (0 : Nat) ≤ 8; decide) ?_
      refine Run.mono (P_X12_restores q22) (fun rr ss e => ?_)
      obtain ⟨e1, e2⟩ := e
      refine R_eqs (st2 := []) (σ2 := (kst (kst (kst σ 1 (sKeep (σ 1) (3084))) 1 (sHours ((kst σ 1 (sKeep (σ 1) (3084))) 1) (l2 : Int).toNat)) 1 (sRest ((kst (kst σ 1 (sKeep (σ 1) (3084))) 1 (sHours ((kst σ 1 (sKeep (σ 1) (3084))) 1) (l2 : Int).toNat)) 1) (3084)))) (by rfl) e2 ?_
      refine R_aload_n e_X12_purseIn_2.2.2.2.2.2.1 1 rfl ?_
      refine R_iload_n e_X12_purseIn_2.2.2.2.2.2.2.1 0 rfl ?_
      refine R_callV (mc := 0) (ms := 0) (mc' := 0) (ms' := 0) (M' := M_X12_gives) (d' := 0) (as := [vI ((kst (kst σ 1 (sKeep (σ 1) (3084))) 1 (sHours ((kst σ 1 (sKeep (σ 1) (3084))) 1) (l2 : Int).toNat)) 1 ((34 + (9 * l1)) + 5))]) (st := []) 12 1 e_X12_purseIn_2.2.2.2.2.2.2.2.1 (kCVof m_X12_gives l_X12_97) rfl (by decide) km_0 (by decide) (by decide) rfl rfl (by show (0 : Nat) ≤ 8; decide) ?_
      refine S_X12_gives ?_
      refine R_eqs (st2 := [vI ((kst (kst σ 1 (sKeep (σ 1) (3084))) 1 (sHours ((kst σ 1 (sKeep (σ 1) (3084))) 1) (l2 : Int).toNat)) 1 ((34 + (9 * l1)) + 5))]) (σ2 := (kup (kst (kst (kst σ 1 (sKeep (σ 1) (3084))) 1 (sHours ((kst σ 1 (sKeep (σ 1) (3084))) 1) (l2 : Int).toNat)) 1 (sRest ((kst (kst σ 1 (sKeep (σ 1) (3084))) 1 (sHours ((kst σ 1 (sKeep (σ 1) (3084))) 1) (l2 : Int).toNat)) 1) (3084))) 0 2 0)) rfl rfl ?_
      exact R_ireturn e_X12_purseIn_2.2.2.2.2.2.2.2.2 rfl h
    · replace h := h.2 (kb_f q)
      refine R_aload_n e_X12_purseIn_0.2.2.2.2.2.2.2.1 0 rfl ?_
      refine R_iconst e_X12_purseIn_0.2.2.2.2.2.2.2.2.1 ?_
      refine R_callV (mc := 0) (ms := 0) (mc' := 0) (ms' := 0) (M' := M_X12_refuse) (d' := 0) (as := [vI 1]) (st := []) 12 1 e_X12_purseIn_0.2.2.2.2.2.2.2.2.2 (kCVof m_X12_refuse l_X12_93) rfl (by decide) km_0 (by decide) (by decide) rfl rfl (by show (0 : Nat) ≤ 8; decide) ?_
      refine S_X12_refuse ?_
      refine R_eqs (st2 := [vI (-1)]) (σ2 := (kup σ 0 2 1)) rfl rfl ?_
      exact R_ireturn e_X12_purseIn_1.1 rfl h
/-! KiteLandModel.tenantIn(II)I -/
theorem e_X12_tenantIn_0 : decode cX12_tenantIn 0 = .ok (.aload_n 0, 1) ∧ decode cX12_tenantIn 1 = .ok (.iload_n 1, 1) ∧ decode cX12_tenantIn 2 = .ok (.invokevirtual 349, 3) ∧ decode cX12_tenantIn 5 = .ok (.ifCond .eq 10, 3) ∧ decode cX12_tenantIn 8 = .ok (.iload_n 2, 1) ∧ decode cX12_tenantIn 9 = .ok (.invokestatic 428, 3) ∧ decode cX12_tenantIn 12 = .ok (.ifCond .ne 9, 3) ∧ decode cX12_tenantIn 15 = .ok (.aload_n 0, 1) ∧ decode cX12_tenantIn 16 = .ok (.iconst 1, 1) ∧ decode cX12_tenantIn 17 = .ok (.invokevirtual 93, 3) := by decide +kernel
theorem e_X12_tenantIn_1 : decode cX12_tenantIn 20 = .ok (.ireturn, 1) ∧ decode cX12_tenantIn 21 = .ok (.aload_n 0, 1) ∧ decode cX12_tenantIn 22 = .ok (.sipush 3084, 3) ∧ decode cX12_tenantIn 25 = .ok (.invokevirtual 419, 3) ∧ decode cX12_tenantIn 28 = .ok (.aload_n 0, 1) ∧ decode cX12_tenantIn 29 = .ok (.iload_n 2, 1) ∧ decode cX12_tenantIn 30 = .ok (.invokevirtual 437, 3) ∧ decode cX12_tenantIn 33 = .ok (.bipush 10, 2) ∧ decode cX12_tenantIn 35 = .ok (.aload_n 0, 1) ∧ decode cX12_tenantIn 36 = .ok (.getfield 7, 3) := by decide +kernel
theorem e_X12_tenantIn_2 : decode cX12_tenantIn 39 = .ok (.iload_n 1, 1) ∧ decode cX12_tenantIn 40 = .ok (.invokestatic 352, 3) ∧ decode cX12_tenantIn 43 = .ok (.iconst 1, 1) ∧ decode cX12_tenantIn 44 = .ok (.iadd, 1) ∧ decode cX12_tenantIn 45 = .ok (.iaload, 1) ∧ decode cX12_tenantIn 46 = .ok (.imul, 1) ∧ decode cX12_tenantIn 47 = .ok (.aload_n 0, 1) ∧ decode cX12_tenantIn 48 = .ok (.getfield 7, 3) ∧ decode cX12_tenantIn 51 = .ok (.iload_n 1, 1) ∧ decode cX12_tenantIn 52 = .ok (.invokestatic 352, 3) := by decide +kernel
theorem e_X12_tenantIn_3 : decode cX12_tenantIn 55 = .ok (.iaload, 1) ∧ decode cX12_tenantIn 56 = .ok (.iadd, 1) ∧ decode cX12_tenantIn 57 = .ok (.istore_n 3, 1) ∧ decode cX12_tenantIn 58 = .ok (.aload_n 0, 1) ∧ decode cX12_tenantIn 59 = .ok (.sipush 3084, 3) ∧ decode cX12_tenantIn 62 = .ok (.invokevirtual 422, 3) ∧ decode cX12_tenantIn 65 = .ok (.aload_n 0, 1) ∧ decode cX12_tenantIn 66 = .ok (.iload_n 3, 1) ∧ decode cX12_tenantIn 67 = .ok (.invokevirtual 97, 3) ∧ decode cX12_tenantIn 70 = .ok (.ireturn, 1) := by decide +kernel
theorem S_X12_tenantIn {G : Kg} {σ : Kmem} {Q : Int → Kmem → Prop} {l1 l2 : Int}  (h : (rI (l1) ∧ wf (σ 1)) ∧ ((¬ (0 ≤ l1 ∧ (l1 : Int) < (σ 1) 4) → Q (-1) (kup σ 0 2 1)) ∧ ((0 ≤ l1 ∧ (l1 : Int) < (σ 1) 4) → (rI (l2)) ∧ ((((0 : Int) ≤ l2 ∧ (l2 : Int) ≤ 99) → ((150 : Int) ≤ 3084 ∧ (3084 : Int) ≤ 3448) ∧ (wf ((kst σ 1 (sKeep (σ 1) (3084))) 1) ∧ ((kst σ 1 (sKeep (σ 1) (3084))) 1) 7 ≤ 20000 ∧ ((0 : Int) ≤ l2 ∧ (l2 : Int) ≤ 1000)) ∧ (0 ≤ (120 + (5 * l1)) + 1 ∧ (120 + (5 * l1)) + 1 < 3598) ∧ (0 ≤ 120 + (5 * l1) ∧ 120 + (5 * l1) < 3598) ∧ ((150 : Int) ≤ 3084 ∧ (3084 : Int) ≤ 3448) ∧ Q ((10 * ((kst (kst σ 1 (sKeep (σ 1) (3084))) 1 (sHours ((kst σ 1 (sKeep (σ 1) (3084))) 1) (l2 : Int).toNat)) 1 ((120 + (5 * l1)) + 1))) + ((kst (kst σ 1 (sKeep (σ 1) (3084))) 1 (sHours ((kst σ 1 (sKeep (σ 1) (3084))) 1) (l2 : Int).toNat)) 1 (120 + (5 * l1)))) (kup (kst (kst (kst σ 1 (sKeep (σ 1) (3084))) 1 (sHours ((kst σ 1 (sKeep (σ 1) (3084))) 1) (l2 : Int).toNat)) 1 (sRest ((kst (kst σ 1 (sKeep (σ 1) (3084))) 1 (sHours ((kst σ 1 (sKeep (σ 1) (3084))) 1) (l2 : Int).toNat)) 1) (3084))) 0 2 0)) ∧ (¬ ((0 : Int) ≤ l2 ∧ (l2 : Int) ≤ 99) → Q (-1) (kup σ 0 2 1)))))) : Run G WM M_X12_tenantIn 10 0 0 [vA G 0, vI l1, vI l2] σ Q := by
  refine Run.of (by decide +kernel) (by show (3 : Nat) ≤ 4; decide) ?_
  show Ex G WM M_X12_tenantIn 10 0 0 0 [(0, vA G 0), (1, vI l1), (2, vI l2)] [] σ Q
  refine R_aload_n e_X12_tenantIn_0.1 0 rfl ?_
  refine R_iload_n e_X12_tenantIn_0.2.1 1 rfl ?_
  obtain ⟨q3, h⟩ := h
  refine R_callV (mc := 0) (ms := 0) (mc' := 0) (ms' := 0) (M' := M_X12_isTenant) (d' := 0) (as := [vI l1]) (st := []) 12 1 e_X12_tenantIn_0.2.2.1 (kCVof m_X12_isTenant l_X12_349) rfl (by decide) km_0 (by decide) (by decide) rfl rfl (by show (0 : Nat) ≤ 8; decide) ?_
  refine Run.mono (P_X12_isTenant q3) (fun rr ss e => ?_)
  obtain ⟨e1, e2⟩ := e
  refine R_eqs (st2 := [vI (kb (0 ≤ l1 ∧ (l1 : Int) < (σ 1) 4))]) (σ2 := σ) (by rw [e1]; rfl) e2 ?_
  refine R_if_eq 15 e_X12_tenantIn_0.2.2.2.1 (by decide) (kb_r _) (fun q => ?_) (fun q => ?_)
  · replace h := h.1 (kb_f q)
    refine R_aload_n e_X12_tenantIn_0.2.2.2.2.2.2.2.1 0 rfl ?_
    refine R_iconst e_X12_tenantIn_0.2.2.2.2.2.2.2.2.1 ?_
    refine R_callV (mc := 0) (ms := 0) (mc' := 0) (ms' := 0) (M' := M_X12_refuse) (d' := 0) (as := [vI 1]) (st := []) 12 1 e_X12_tenantIn_0.2.2.2.2.2.2.2.2.2 (kCVof m_X12_refuse l_X12_93) rfl (by decide) km_0 (by decide) (by decide) rfl rfl (by show (0 : Nat) ≤ 8; decide) ?_
    refine S_X12_refuse ?_
    refine R_eqs (st2 := [vI (-1)]) (σ2 := (kup σ 0 2 1)) rfl rfl ?_
    exact R_ireturn e_X12_tenantIn_1.1 rfl h
  · replace h := h.2 (kb_t q)
    refine R_iload_n e_X12_tenantIn_0.2.2.2.2.1 2 rfl ?_
    obtain ⟨q8, h⟩ := h
    refine R_callS (mc := 0) (ms := 0) (mc' := 0) (ms' := 0) (M' := M_X12_isSpan) (d' := 1) (as := [vI l2]) (st := []) 1 e_X12_tenantIn_0.2.2.2.2.2.1 (kCSof m_X12_isSpan l_X12_428) (by decide) (by decide) rfl rfl (by show (0 : Nat) ≤ 8; decide) ?_
    refine Run.mono (P_X12_isSpan q8) (fun rr ss e => ?_)
    obtain ⟨e1, e2⟩ := e
    refine R_eqs (st2 := [vI (kb ((0 : Int) ≤ l2 ∧ (l2 : Int) ≤ 99))]) (σ2 := σ) (by rw [e1]; rfl) e2 ?_
    refine R_if_ne 21 e_X12_tenantIn_0.2.2.2.2.2.2.1 (by decide) (kb_r _) (fun q => ?_) (fun q => ?_)
    · replace h := h.1 (kb_t q)
      refine R_aload_n e_X12_tenantIn_1.2.1 0 rfl ?_
      refine R_sipush e_X12_tenantIn_1.2.2.1 (by decide) ?_
      obtain ⟨q11, h⟩ := h
      refine R_callV (mc := 0) (ms := 0) (mc' := 0) (ms' := 0) (M' := M_X12_keeps) (d' := 0) (as := [vI 3084]) (st := []) 12 1 e_X12_tenantIn_1.2.2.2.1 (kCVof m_X12_keeps l_X12_419) rfl (by decide) km_0 (by decide) (by decide) rfl rfl (by show (0 : Nat) ≤ 8; decide) ?_
      refine Run.mono (P_X12_keeps q11) (fun rr ss e => ?_)
      obtain ⟨e1, e2⟩ := e
      refine R_eqs (st2 := []) (σ2 := (kst σ 1 (sKeep (σ 1) (3084)))) (by rfl) e2 ?_
      refine R_aload_n e_X12_tenantIn_1.2.2.2.2.1 0 rfl ?_
      refine R_iload_n e_X12_tenantIn_1.2.2.2.2.2.1 2 rfl ?_
      obtain ⟨q14, h⟩ := h
      refine R_callV (mc := 0) (ms := 0) (mc' := 0) (ms' := 0) (M' := M_X12_goesOn) (d' := 9) (as := [vI l2]) (st := []) 12 1 e_X12_tenantIn_1.2.2.2.2.2.2.1 (kCVof m_X12_goesOn l_X12_437) rfl (by decide) km_0 (by decide) (by decide) rfl rfl (by show (0 : Nat) ≤ 8; decide) ?_
      refine Run.mono (P_X12_goesOn q14) (fun rr ss e => ?_)
      obtain ⟨e1, e2⟩ := e
      refine R_eqs (st2 := []) (σ2 := (kst (kst σ 1 (sKeep (σ 1) (3084))) 1 (sHours ((kst σ 1 (sKeep (σ 1) (3084))) 1) (l2 : Int).toNat))) (by rfl) e2 ?_
      refine R_bipush e_X12_tenantIn_1.2.2.2.2.2.2.2.1 (by decide) ?_
      refine R_aload_n e_X12_tenantIn_1.2.2.2.2.2.2.2.2.1 0 rfl ?_
      refine R_getA 12 0 1 e_X12_tenantIn_1.2.2.2.2.2.2.2.2.2 f_X12_7 km_0 (fun _ _ => rfl) rm_0_0 (by decide) ?_
      refine R_iload_n e_X12_tenantIn_2.1 1 rfl ?_
      refine R_callS (mc := 0) (ms := 0) (mc' := 0) (ms' := 0) (M' := M_X12_tenantRow) (d' := 0) (as := [vI l1]) (st := [vA G 1, vI 10]) 1 e_X12_tenantIn_2.2.1 (kCSof m_X12_tenantRow l_X12_352) (by decide) (by decide) rfl rfl (by show (2 : Nat) ≤ 8; decide) ?_
      refine S_X12_tenantRow ?_
      refine R_eqs (st2 := [vI (120 + (5 * l1)), vA G 1, vI 10]) (σ2 := (kst (kst σ 1 (sKeep (σ 1) (3084))) 1 (sHours ((kst σ 1 (sKeep (σ 1) (3084))) 1) (l2 : Int).toNat))) rfl rfl ?_
      refine R_iconst e_X12_tenantIn_2.2.2.1 ?_
      refine R_iadd e_X12_tenantIn_2.2.2.2.1 ?_
      obtain ⟨q17, h⟩ := h
      refine R_iald 3598 e_X12_tenantIn_2.2.2.2.2.1 kma_1 q17 ?_
      refine R_imul e_X12_tenantIn_2.2.2.2.2.2.1 ?_
      refine R_aload_n e_X12_tenantIn_2.2.2.2.2.2.2.1 0 rfl ?_
      refine R_getA 12 0 1 e_X12_tenantIn_2.2.2.2.2.2.2.2.1 f_X12_7 km_0 (fun _ _ => rfl) rm_0_0 (by decide) ?_
      refine R_iload_n e_X12_tenantIn_2.2.2.2.2.2.2.2.2.1 1 rfl ?_
      refine R_callS (mc := 0) (ms := 0) (mc' := 0) (ms' := 0) (M' := M_X12_tenantRow) (d' := 0) (as := [vI l1]) (st := [vA G 1, vI (10 * ((kst (kst σ 1 (sKeep (σ 1) (3084))) 1 (sHours ((kst σ 1 (sKeep (σ 1) (3084))) 1) (l2 : Int).toNat)) 1 ((120 + (5 * l1)) + 1)))]) 1 e_X12_tenantIn_2.2.2.2.2.2.2.2.2.2 (kCSof m_X12_tenantRow l_X12_352) (by decide) (by decide) rfl rfl (by show (2 : Nat) ≤ 8; decide) ?_
      refine S_X12_tenantRow ?_
      refine R_eqs (st2 := [vI (120 + (5 * l1)), vA G 1, vI (10 * ((kst (kst σ 1 (sKeep (σ 1) (3084))) 1 (sHours ((kst σ 1 (sKeep (σ 1) (3084))) 1) (l2 : Int).toNat)) 1 ((120 + (5 * l1)) + 1)))]) (σ2 := (kst (kst σ 1 (sKeep (σ 1) (3084))) 1 (sHours ((kst σ 1 (sKeep (σ 1) (3084))) 1) (l2 : Int).toNat))) rfl rfl ?_
      obtain ⟨q20, h⟩ := h
      refine R_iald 3598 e_X12_tenantIn_3.1 kma_1 q20 ?_
      refine R_iadd e_X12_tenantIn_3.2.1 ?_
      refine R_istore_n (ls2 := [(3, vI ((10 * ((kst (kst σ 1 (sKeep (σ 1) (3084))) 1 (sHours ((kst σ 1 (sKeep (σ 1) (3084))) 1) (l2 : Int).toNat)) 1 ((120 + (5 * l1)) + 1))) + ((kst (kst σ 1 (sKeep (σ 1) (3084))) 1 (sHours ((kst σ 1 (sKeep (σ 1) (3084))) 1) (l2 : Int).toNat)) 1 (120 + (5 * l1))))), (0, vA G 0), (1, vI l1), (2, vI l2)]) e_X12_tenantIn_3.2.2.1 (by decide) rfl ?_
      refine R_aload_n e_X12_tenantIn_3.2.2.2.1 1 rfl ?_
      refine R_sipush e_X12_tenantIn_3.2.2.2.2.1 (by decide) ?_
      obtain ⟨q23, h⟩ := h
      refine R_callV (mc := 0) (ms := 0) (mc' := 0) (ms' := 0) (M' := M_X12_restores) (d' := 0) (as := [vI 3084]) (st := []) 12 1 e_X12_tenantIn_3.2.2.2.2.2.1 (kCVof m_X12_restores l_X12_422) rfl (by decide) km_0 (by decide) (by decide) rfl rfl (by show (0 : Nat) ≤ 8; decide) ?_
      refine Run.mono (P_X12_restores q23) (fun rr ss e => ?_)
      obtain ⟨e1, e2⟩ := e
      refine R_eqs (st2 := []) (σ2 := (kst (kst (kst σ 1 (sKeep (σ 1) (3084))) 1 (sHours ((kst σ 1 (sKeep (σ 1) (3084))) 1) (l2 : Int).toNat)) 1 (sRest ((kst (kst σ 1 (sKeep (σ 1) (3084))) 1 (sHours ((kst σ 1 (sKeep (σ 1) (3084))) 1) (l2 : Int).toNat)) 1) (3084)))) (by rfl) e2 ?_
      refine R_aload_n e_X12_tenantIn_3.2.2.2.2.2.2.1 1 rfl ?_
      refine R_iload_n e_X12_tenantIn_3.2.2.2.2.2.2.2.1 0 rfl ?_
      refine R_callV (mc := 0) (ms := 0) (mc' := 0) (ms' := 0) (M' := M_X12_gives) (d' := 0) (as := [vI ((10 * ((kst (kst σ 1 (sKeep (σ 1) (3084))) 1 (sHours ((kst σ 1 (sKeep (σ 1) (3084))) 1) (l2 : Int).toNat)) 1 ((120 + (5 * l1)) + 1))) + ((kst (kst σ 1 (sKeep (σ 1) (3084))) 1 (sHours ((kst σ 1 (sKeep (σ 1) (3084))) 1) (l2 : Int).toNat)) 1 (120 + (5 * l1))))]) (st := []) 12 1 e_X12_tenantIn_3.2.2.2.2.2.2.2.2.1 (kCVof m_X12_gives l_X12_97) rfl (by decide) km_0 (by decide) (by decide) rfl rfl (by show (0 : Nat) ≤ 8; decide) ?_
      refine S_X12_gives ?_
      refine R_eqs (st2 := [vI ((10 * ((kst (kst σ 1 (sKeep (σ 1) (3084))) 1 (sHours ((kst σ 1 (sKeep (σ 1) (3084))) 1) (l2 : Int).toNat)) 1 ((120 + (5 * l1)) + 1))) + ((kst (kst σ 1 (sKeep (σ 1) (3084))) 1 (sHours ((kst σ 1 (sKeep (σ 1) (3084))) 1) (l2 : Int).toNat)) 1 (120 + (5 * l1))))]) (σ2 := (kup (kst (kst (kst σ 1 (sKeep (σ 1) (3084))) 1 (sHours ((kst σ 1 (sKeep (σ 1) (3084))) 1) (l2 : Int).toNat)) 1 (sRest ((kst (kst σ 1 (sKeep (σ 1) (3084))) 1 (sHours ((kst σ 1 (sKeep (σ 1) (3084))) 1) (l2 : Int).toNat)) 1) (3084))) 0 2 0)) rfl rfl ?_
      exact R_ireturn e_X12_tenantIn_3.2.2.2.2.2.2.2.2.2 rfl h
    · replace h := h.2 (kb_f q)
      refine R_aload_n e_X12_tenantIn_0.2.2.2.2.2.2.2.1 0 rfl ?_
      refine R_iconst e_X12_tenantIn_0.2.2.2.2.2.2.2.2.1 ?_
      refine R_callV (mc := 0) (ms := 0) (mc' := 0) (ms' := 0) (M' := M_X12_refuse) (d' := 0) (as := [vI 1]) (st := []) 12 1 e_X12_tenantIn_0.2.2.2.2.2.2.2.2.2 (kCVof m_X12_refuse l_X12_93) rfl (by decide) km_0 (by decide) (by decide) rfl rfl (by show (0 : Nat) ≤ 8; decide) ?_
      refine S_X12_refuse ?_
      refine R_eqs (st2 := [vI (-1)]) (σ2 := (kup σ 0 2 1)) rfl rfl ?_
      exact R_ireturn e_X12_tenantIn_1.1 rfl h
/-! KiteLandModel.flyAt(I)I -/
theorem e_X12_flyAt_0 : decode cX12_flyAt 0 = .ok (.iload_n 1, 1) ∧ decode cX12_flyAt 1 = .ok (.ifCond .ge 11, 3) ∧ decode cX12_flyAt 4 = .ok (.aload_n 0, 1) ∧ decode cX12_flyAt 5 = .ok (.iconst 1, 1) ∧ decode cX12_flyAt 6 = .ok (.invokevirtual 93, 3) ∧ decode cX12_flyAt 9 = .ok (.goto 30, 3) ∧ decode cX12_flyAt 12 = .ok (.iload_n 1, 1) ∧ decode cX12_flyAt 13 = .ok (.aload_n 0, 1) ∧ decode cX12_flyAt 14 = .ok (.getfield 446, 3) ∧ decode cX12_flyAt 17 = .ok (.if_icmp .lt 12, 3) := by decide +kernel
theorem e_X12_flyAt_1 : decode cX12_flyAt 20 = .ok (.aload_n 0, 1) ∧ decode cX12_flyAt 21 = .ok (.bipush 6, 2) ∧ decode cX12_flyAt 23 = .ok (.invokevirtual 93, 3) ∧ decode cX12_flyAt 26 = .ok (.goto 13, 3) ∧ decode cX12_flyAt 29 = .ok (.aload_n 0, 1) ∧ decode cX12_flyAt 30 = .ok (.aload_n 0, 1) ∧ decode cX12_flyAt 31 = .ok (.getfield 50, 3) ∧ decode cX12_flyAt 34 = .ok (.iload_n 1, 1) ∧ decode cX12_flyAt 35 = .ok (.iaload, 1) ∧ decode cX12_flyAt 36 = .ok (.invokevirtual 97, 3) := by decide +kernel
theorem e_X12_flyAt_2 : decode cX12_flyAt 39 = .ok (.ireturn, 1) := by decide +kernel
theorem S_X12_flyAt {G : Kg} {σ : Kmem} {Q : Int → Kmem → Prop} {l1 : Int}  (h : (rI l1) ∧ ((0 ≤ l1 → (rI (σ 0 26)) ∧ ((l1 < σ 0 26 → (0 ≤ l1 ∧ l1 < 5) ∧ Q (σ 10 l1) (kup σ 0 2 0)) ∧ (σ 0 26 ≤ l1 → Q (-1) (kup σ 0 2 6)))) ∧ (l1 < 0 → Q (-1) (kup σ 0 2 1)))) : Run G WM M_X12_flyAt 1 0 0 [vA G 0, vI l1] σ Q := by
  refine Run.of (by decide +kernel) (by show (2 : Nat) ≤ 2; decide) ?_
  show Ex G WM M_X12_flyAt 1 0 0 0 [(0, vA G 0), (1, vI l1)] [] σ Q
  refine R_iload_n e_X12_flyAt_0.1 1 rfl ?_
  obtain ⟨q1, h⟩ := h
  refine R_if_ge 12 e_X12_flyAt_0.2.1 (by decide) q1  (fun q => ?_) (fun q => ?_)
  · replace h := h.1 q
    refine R_iload_n e_X12_flyAt_0.2.2.2.2.2.2.1 1 rfl ?_
    refine R_aload_n e_X12_flyAt_0.2.2.2.2.2.2.2.1 0 rfl ?_
    refine R_getI 12 26 26 e_X12_flyAt_0.2.2.2.2.2.2.2.2.1 f_X12_446 km_0 (fun _ _ => rfl) rfl ?_
    obtain ⟨q2, h⟩ := h
    refine R_icmp_lt 29 e_X12_flyAt_0.2.2.2.2.2.2.2.2.2 (by decide) q1 q2 (fun q => ?_) (fun q => ?_)
    · replace h := h.1 q
      refine R_aload_n e_X12_flyAt_1.2.2.2.2.1 0 rfl ?_
      refine R_aload_n e_X12_flyAt_1.2.2.2.2.2.1 0 rfl ?_
      refine R_getA 12 25 10 e_X12_flyAt_1.2.2.2.2.2.2.1 f_X12_50 km_0 (fun _ _ => rfl) rm_0_25 (by decide) ?_
      refine R_iload_n e_X12_flyAt_1.2.2.2.2.2.2.2.1 1 rfl ?_
      obtain ⟨q3, h⟩ := h
      refine R_iald 5 e_X12_flyAt_1.2.2.2.2.2.2.2.2.1 kma_10 q3 ?_
      refine R_callV (mc := 0) (ms := 0) (mc' := 0) (ms' := 0) (M' := M_X12_gives) (d' := 0) (as := [vI (σ 10 l1)]) (st := []) 12 1 e_X12_flyAt_1.2.2.2.2.2.2.2.2.2 (kCVof m_X12_gives l_X12_97) rfl (by decide) km_0 (by decide) (by decide) rfl rfl (by show (0 : Nat) ≤ 8; decide) ?_
      refine S_X12_gives ?_
      refine R_eqs (st2 := [vI (σ 10 l1)]) (σ2 := (kup σ 0 2 0)) rfl rfl ?_
      exact R_ireturn e_X12_flyAt_2 rfl h
    · replace h := h.2 q
      refine R_aload_n e_X12_flyAt_1.1 0 rfl ?_
      refine R_bipush e_X12_flyAt_1.2.1 (by decide) ?_
      refine R_callV (mc := 0) (ms := 0) (mc' := 0) (ms' := 0) (M' := M_X12_refuse) (d' := 0) (as := [vI 6]) (st := []) 12 1 e_X12_flyAt_1.2.2.1 (kCVof m_X12_refuse l_X12_93) rfl (by decide) km_0 (by decide) (by decide) rfl rfl (by show (0 : Nat) ≤ 8; decide) ?_
      refine S_X12_refuse ?_
      refine R_eqs (st2 := [vI (-1)]) (σ2 := (kup σ 0 2 6)) rfl rfl ?_
      refine R_goto 39 e_X12_flyAt_1.2.2.2.1 (by decide) ?_
      exact R_ireturn e_X12_flyAt_2 rfl h
  · replace h := h.2 q
    refine R_aload_n e_X12_flyAt_0.2.2.1 0 rfl ?_
    refine R_iconst e_X12_flyAt_0.2.2.2.1 ?_
    refine R_callV (mc := 0) (ms := 0) (mc' := 0) (ms' := 0) (M' := M_X12_refuse) (d' := 0) (as := [vI 1]) (st := []) 12 1 e_X12_flyAt_0.2.2.2.2.1 (kCVof m_X12_refuse l_X12_93) rfl (by decide) km_0 (by decide) (by decide) rfl rfl (by show (0 : Nat) ≤ 8; decide) ?_
    refine S_X12_refuse ?_
    refine R_eqs (st2 := [vI (-1)]) (σ2 := (kup σ 0 2 1)) rfl rfl ?_
    refine R_goto 39 e_X12_flyAt_0.2.2.2.2.2.1 (by decide) ?_
    exact R_ireturn e_X12_flyAt_2 rfl h
/-! KiteLandModel.cover(III)I -/
theorem e_X12_cover_0 : decode cX12_cover 0 = .ok (.aload_n 0, 1) ∧ decode cX12_cover 1 = .ok (.iload_n 1, 1) ∧ decode cX12_cover 2 = .ok (.iload_n 2, 1) ∧ decode cX12_cover 3 = .ok (.iload_n 3, 1) ∧ decode cX12_cover 4 = .ok (.invokevirtual 453, 3) ∧ decode cX12_cover 7 = .ok (.istore 4, 2) ∧ decode cX12_cover 9 = .ok (.iload 4, 2) ∧ decode cX12_cover 11 = .ok (.ifCond .le 10, 3) ∧ decode cX12_cover 14 = .ok (.aload_n 0, 1) ∧ decode cX12_cover 15 = .ok (.iload 4, 2) := by decide +kernel
theorem e_X12_cover_1 : decode cX12_cover 17 = .ok (.invokevirtual 93, 3) ∧ decode cX12_cover 20 = .ok (.ireturn, 1) ∧ decode cX12_cover 21 = .ok (.aload_n 0, 1) ∧ decode cX12_cover 22 = .ok (.iload_n 1, 1) ∧ decode cX12_cover 23 = .ok (.iload_n 2, 1) ∧ decode cX12_cover 24 = .ok (.iload_n 3, 1) ∧ decode cX12_cover 25 = .ok (.invokevirtual 456, 3) ∧ decode cX12_cover 28 = .ok (.istore 5, 2) ∧ decode cX12_cover 30 = .ok (.iload 5, 2) ∧ decode cX12_cover 32 = .ok (.iconst (-1), 1) := by decide +kernel
theorem e_X12_cover_2 : decode cX12_cover 33 = .ok (.if_icmp .ne 12, 3) ∧ decode cX12_cover 36 = .ok (.aload_n 0, 1) ∧ decode cX12_cover 37 = .ok (.bipush 6, 2) ∧ decode cX12_cover 39 = .ok (.invokevirtual 93, 3) ∧ decode cX12_cover 42 = .ok (.goto 12, 3) ∧ decode cX12_cover 45 = .ok (.aload_n 0, 1) ∧ decode cX12_cover 46 = .ok (.iload 5, 2) ∧ decode cX12_cover 48 = .ok (.invokestatic 302, 3) ∧ decode cX12_cover 51 = .ok (.invokevirtual 97, 3) ∧ decode cX12_cover 54 = .ok (.ireturn, 1) := by decide +kernel
theorem S_X12_cover {G : Kg} {σ : Kmem} {Q : Int → Kmem → Prop} {l1 l2 l3 : Int}  (h : (wf (σ 1) ∧ (∀ i, 0 ≤ i → i < 4 → tOk (σ 4 i)) ∧ (∀ i, 0 ≤ i → i < 240 → rL (σ 5 i)) ∧ rI (l1) ∧ rI (l2) ∧ rI (l3)) ∧ (rI (sWCo (σ 1) (σ 4) (σ 5) (l1) (l2) (l3))) ∧ ((sWCo (σ 1) (σ 4) (σ 5) (l1) (l2) (l3) ≤ 0 → (wf (σ 1) ∧ sTr (l1) ∧ ((1 : Int) ≤ l2 ∧ (l2 : Int) ≤ 20) ∧ sHr (l3) ∧ sPl (σ 1) (σ 5) (l1) (l2 : Int).toNat) ∧ (rI (sCov (σ 1) (σ 5) (l1) (l2) (l3) (2 ^ ((σ 1) 2).toNat))) ∧ ((sCov (σ 1) (σ 5) (l1) (l2) (l3) (2 ^ ((σ 1) 2).toNat) ≠ -1 → ((0 : Int) ≤ (sCov (σ 1) (σ 5) (l1) (l2) (l3) (2 ^ ((σ 1) 2).toNat)) ∧ ((sCov (σ 1) (σ 5) (l1) (l2) (l3) (2 ^ ((σ 1) 2).toNat)) : Int) < 64) ∧ Q (kbits ((sCov (σ 1) (σ 5) (l1) (l2) (l3) (2 ^ ((σ 1) 2).toNat))).toNat : Int) (kup σ 0 2 0)) ∧ (sCov (σ 1) (σ 5) (l1) (l2) (l3) (2 ^ ((σ 1) 2).toNat) = -1 → Q (-1) (kup σ 0 2 6)))) ∧ (0 < sWCo (σ 1) (σ 4) (σ 5) (l1) (l2) (l3) → Q (-1) (kup σ 0 2 (sWCo (σ 1) (σ 4) (σ 5) (l1) (l2) (l3)))))) : Run G WM M_X12_cover 7 0 0 [vA G 0, vI l1, vI l2, vI l3] σ Q := by
  refine Run.of (by decide +kernel) (by show (4 : Nat) ≤ 6; decide) ?_
  show Ex G WM M_X12_cover 7 0 0 0 [(0, vA G 0), (1, vI l1), (2, vI l2), (3, vI l3)] [] σ Q
  refine R_aload_n e_X12_cover_0.1 0 rfl ?_
  refine R_iload_n e_X12_cover_0.2.1 1 rfl ?_
  refine R_iload_n e_X12_cover_0.2.2.1 2 rfl ?_
  refine R_iload_n e_X12_cover_0.2.2.2.1 3 rfl ?_
  obtain ⟨q3, h⟩ := h
  refine R_callV (mc := 0) (ms := 0) (mc' := 0) (ms' := 0) (M' := M_X12_wrongCover) (d' := 1) (as := [vI l1, vI l2, vI l3]) (st := []) 12 3 e_X12_cover_0.2.2.2.2.1 (kCVof m_X12_wrongCover l_X12_453) rfl (by decide) km_0 (by decide) (by decide) rfl rfl (by show (0 : Nat) ≤ 8; decide) ?_
  refine Run.mono (P_X12_wrongCover q3) (fun rr ss e => ?_)
  obtain ⟨e1, e2⟩ := e
  refine R_eqs (st2 := [vI (sWCo (σ 1) (σ 4) (σ 5) (l1) (l2) (l3))]) (σ2 := σ) (by rw [e1]; rfl) e2 ?_
  refine R_istore (ls2 := [(4, vI (sWCo (σ 1) (σ 4) (σ 5) (l1) (l2) (l3))), (0, vA G 0), (1, vI l1), (2, vI l2), (3, vI l3)]) e_X12_cover_0.2.2.2.2.2.1 (by decide) rfl ?_
  refine R_iload e_X12_cover_0.2.2.2.2.2.2.1 0 rfl ?_
  obtain ⟨q4, h⟩ := h
  refine R_if_le 21 e_X12_cover_0.2.2.2.2.2.2.2.1 (by decide) q4  (fun q => ?_) (fun q => ?_)
  · replace h := h.1 q
    refine R_aload_n e_X12_cover_1.2.2.1 1 rfl ?_
    refine R_iload_n e_X12_cover_1.2.2.2.1 2 rfl ?_
    refine R_iload_n e_X12_cover_1.2.2.2.2.1 3 rfl ?_
    refine R_iload_n e_X12_cover_1.2.2.2.2.2.1 4 rfl ?_
    obtain ⟨q7, h⟩ := h
    refine R_callV (mc := 0) (ms := 0) (mc' := 0) (ms' := 0) (M' := M_X12_coverOf) (d' := 6) (as := [vI l1, vI l2, vI l3]) (st := []) 12 3 e_X12_cover_1.2.2.2.2.2.2.1 (kCVof m_X12_coverOf l_X12_456) rfl (by decide) km_0 (by decide) (by decide) rfl rfl (by show (0 : Nat) ≤ 8; decide) ?_
    refine Run.mono (P_X12_coverOf q7) (fun rr ss e => ?_)
    obtain ⟨e1, e2⟩ := e
    refine R_eqs (st2 := [vI (sCov (σ 1) (σ 5) (l1) (l2) (l3) (2 ^ ((σ 1) 2).toNat))]) (σ2 := σ) (by rw [e1]; rfl) e2 ?_
    refine R_istore (ls2 := [(5, vI (sCov (σ 1) (σ 5) (l1) (l2) (l3) (2 ^ ((σ 1) 2).toNat))), (4, vI (sWCo (σ 1) (σ 4) (σ 5) (l1) (l2) (l3))), (0, vA G 0), (1, vI l1), (2, vI l2), (3, vI l3)]) e_X12_cover_1.2.2.2.2.2.2.2.1 (by decide) rfl ?_
    refine R_iload e_X12_cover_1.2.2.2.2.2.2.2.2.1 0 rfl ?_
    refine R_iconst e_X12_cover_1.2.2.2.2.2.2.2.2.2 ?_
    obtain ⟨q8, h⟩ := h
    refine R_icmp_ne 45 e_X12_cover_2.1 (by decide) q8 (by decide) (fun q => ?_) (fun q => ?_)
    · replace h := h.1 q
      refine R_aload_n e_X12_cover_2.2.2.2.2.2.1 2 rfl ?_
      refine R_iload e_X12_cover_2.2.2.2.2.2.2.1 0 rfl ?_
      obtain ⟨q11, h⟩ := h
      refine R_callS (mc := 0) (ms := 0) (mc' := 0) (ms' := 0) (M' := M_X12_bits) (d' := 0) (as := [vI (sCov (σ 1) (σ 5) (l1) (l2) (l3) (2 ^ ((σ 1) 2).toNat))]) (st := [vA G 0]) 1 e_X12_cover_2.2.2.2.2.2.2.2.1 (kCSof m_X12_bits l_X12_302) (by decide) (by decide) rfl rfl (by show (1 : Nat) ≤ 8; decide) ?_
      refine Run.mono (P_X12_bits q11) (fun rr ss e => ?_)
      obtain ⟨e1, e2⟩ := e
      refine R_eqs (st2 := [vI (kbits ((sCov (σ 1) (σ 5) (l1) (l2) (l3) (2 ^ ((σ 1) 2).toNat))).toNat : Int), vA G 0]) (σ2 := σ) (by rw [e1]; rfl) e2 ?_
      refine R_callV (mc := 0) (ms := 0) (mc' := 0) (ms' := 0) (M' := M_X12_gives) (d' := 0) (as := [vI (kbits ((sCov (σ 1) (σ 5) (l1) (l2) (l3) (2 ^ ((σ 1) 2).toNat))).toNat : Int)]) (st := []) 12 1 e_X12_cover_2.2.2.2.2.2.2.2.2.1 (kCVof m_X12_gives l_X12_97) rfl (by decide) km_0 (by decide) (by decide) rfl rfl (by show (0 : Nat) ≤ 8; decide) ?_
      refine S_X12_gives ?_
      refine R_eqs (st2 := [vI (kbits ((sCov (σ 1) (σ 5) (l1) (l2) (l3) (2 ^ ((σ 1) 2).toNat))).toNat : Int)]) (σ2 := (kup σ 0 2 0)) rfl rfl ?_
      exact R_ireturn e_X12_cover_2.2.2.2.2.2.2.2.2.2 rfl h
    · replace h := h.2 q
      refine R_aload_n e_X12_cover_2.2.1 2 rfl ?_
      refine R_bipush e_X12_cover_2.2.2.1 (by decide) ?_
      refine R_callV (mc := 0) (ms := 0) (mc' := 0) (ms' := 0) (M' := M_X12_refuse) (d' := 0) (as := [vI 6]) (st := []) 12 1 e_X12_cover_2.2.2.2.1 (kCVof m_X12_refuse l_X12_93) rfl (by decide) km_0 (by decide) (by decide) rfl rfl (by show (0 : Nat) ≤ 8; decide) ?_
      refine S_X12_refuse ?_
      refine R_eqs (st2 := [vI (-1)]) (σ2 := (kup σ 0 2 6)) rfl rfl ?_
      refine R_goto 54 e_X12_cover_2.2.2.2.2.1 (by decide) ?_
      exact R_ireturn e_X12_cover_2.2.2.2.2.2.2.2.2.2 rfl h
  · replace h := h.2 q
    refine R_aload_n e_X12_cover_0.2.2.2.2.2.2.2.2.1 1 rfl ?_
    refine R_iload e_X12_cover_0.2.2.2.2.2.2.2.2.2 0 rfl ?_
    refine R_callV (mc := 0) (ms := 0) (mc' := 0) (ms' := 0) (M' := M_X12_refuse) (d' := 0) (as := [vI (sWCo (σ 1) (σ 4) (σ 5) (l1) (l2) (l3))]) (st := []) 12 1 e_X12_cover_1.1 (kCVof m_X12_refuse l_X12_93) rfl (by decide) km_0 (by decide) (by decide) rfl rfl (by show (0 : Nat) ≤ 8; decide) ?_
    refine S_X12_refuse ?_
    refine R_eqs (st2 := [vI (-1)]) (σ2 := (kup σ 0 2 (sWCo (σ 1) (σ 4) (σ 5) (l1) (l2) (l3)))) rfl rfl ?_
    exact R_ireturn e_X12_cover_1.2.1 rfl h
/-! KiteLandModel.coverSet(III)I -/
theorem e_X12_coverSet_0 : decode cX12_coverSet 0 = .ok (.aload_n 0, 1) ∧ decode cX12_coverSet 1 = .ok (.iload_n 1, 1) ∧ decode cX12_coverSet 2 = .ok (.iload_n 2, 1) ∧ decode cX12_coverSet 3 = .ok (.iload_n 3, 1) ∧ decode cX12_coverSet 4 = .ok (.invokevirtual 453, 3) ∧ decode cX12_coverSet 7 = .ok (.istore 4, 2) ∧ decode cX12_coverSet 9 = .ok (.iload 4, 2) ∧ decode cX12_coverSet 11 = .ok (.ifCond .le 12, 3) ∧ decode cX12_coverSet 14 = .ok (.aload_n 0, 1) ∧ decode cX12_coverSet 15 = .ok (.iload 4, 2) := by decide +kernel
theorem e_X12_coverSet_1 : decode cX12_coverSet 17 = .ok (.invokevirtual 93, 3) ∧ decode cX12_coverSet 20 = .ok (.goto 14, 3) ∧ decode cX12_coverSet 23 = .ok (.aload_n 0, 1) ∧ decode cX12_coverSet 24 = .ok (.aload_n 0, 1) ∧ decode cX12_coverSet 25 = .ok (.iload_n 1, 1) ∧ decode cX12_coverSet 26 = .ok (.iload_n 2, 1) ∧ decode cX12_coverSet 27 = .ok (.iload_n 3, 1) ∧ decode cX12_coverSet 28 = .ok (.invokevirtual 456, 3) ∧ decode cX12_coverSet 31 = .ok (.invokevirtual 358, 3) ∧ decode cX12_coverSet 34 = .ok (.ireturn, 1) := by decide +kernel
theorem S_X12_coverSet {G : Kg} {σ : Kmem} {Q : Int → Kmem → Prop} {l1 l2 l3 : Int}  (h : (wf (σ 1) ∧ (∀ i, 0 ≤ i → i < 4 → tOk (σ 4 i)) ∧ (∀ i, 0 ≤ i → i < 240 → rL (σ 5 i)) ∧ rI (l1) ∧ rI (l2) ∧ rI (l3)) ∧ (rI (sWCo (σ 1) (σ 4) (σ 5) (l1) (l2) (l3))) ∧ ((sWCo (σ 1) (σ 4) (σ 5) (l1) (l2) (l3) ≤ 0 → (wf (σ 1) ∧ sTr (l1) ∧ ((1 : Int) ≤ l2 ∧ (l2 : Int) ≤ 20) ∧ sHr (l3) ∧ sPl (σ 1) (σ 5) (l1) (l2 : Int).toNat) ∧ (rI ((sCov (σ 1) (σ 5) (l1) (l2) (l3) (2 ^ ((σ 1) 2).toNat)))) ∧ Q (sCov (σ 1) (σ 5) (l1) (l2) (l3) (2 ^ ((σ 1) 2).toNat)) (kup σ 0 2 (kif (((sCov (σ 1) (σ 5) (l1) (l2) (l3) (2 ^ ((σ 1) 2).toNat)) : Int) = -1) 6 0))) ∧ (0 < sWCo (σ 1) (σ 4) (σ 5) (l1) (l2) (l3) → Q (-1) (kup σ 0 2 (sWCo (σ 1) (σ 4) (σ 5) (l1) (l2) (l3)))))) : Run G WM M_X12_coverSet 7 0 0 [vA G 0, vI l1, vI l2, vI l3] σ Q := by
  refine Run.of (by decide +kernel) (by show (4 : Nat) ≤ 5; decide) ?_
  show Ex G WM M_X12_coverSet 7 0 0 0 [(0, vA G 0), (1, vI l1), (2, vI l2), (3, vI l3)] [] σ Q
  refine R_aload_n e_X12_coverSet_0.1 0 rfl ?_
  refine R_iload_n e_X12_coverSet_0.2.1 1 rfl ?_
  refine R_iload_n e_X12_coverSet_0.2.2.1 2 rfl ?_
  refine R_iload_n e_X12_coverSet_0.2.2.2.1 3 rfl ?_
  obtain ⟨q3, h⟩ := h
  refine R_callV (mc := 0) (ms := 0) (mc' := 0) (ms' := 0) (M' := M_X12_wrongCover) (d' := 1) (as := [vI l1, vI l2, vI l3]) (st := []) 12 3 e_X12_coverSet_0.2.2.2.2.1 (kCVof m_X12_wrongCover l_X12_453) rfl (by decide) km_0 (by decide) (by decide) rfl rfl (by show (0 : Nat) ≤ 8; decide) ?_
  refine Run.mono (P_X12_wrongCover q3) (fun rr ss e => ?_)
  obtain ⟨e1, e2⟩ := e
  refine R_eqs (st2 := [vI (sWCo (σ 1) (σ 4) (σ 5) (l1) (l2) (l3))]) (σ2 := σ) (by rw [e1]; rfl) e2 ?_
  refine R_istore (ls2 := [(4, vI (sWCo (σ 1) (σ 4) (σ 5) (l1) (l2) (l3))), (0, vA G 0), (1, vI l1), (2, vI l2), (3, vI l3)]) e_X12_coverSet_0.2.2.2.2.2.1 (by decide) rfl ?_
  refine R_iload e_X12_coverSet_0.2.2.2.2.2.2.1 0 rfl ?_
  obtain ⟨q4, h⟩ := h
  refine R_if_le 23 e_X12_coverSet_0.2.2.2.2.2.2.2.1 (by decide) q4  (fun q => ?_) (fun q => ?_)
  · replace h := h.1 q
    refine R_aload_n e_X12_coverSet_1.2.2.1 1 rfl ?_
    refine R_aload_n e_X12_coverSet_1.2.2.2.1 1 rfl ?_
    refine R_iload_n e_X12_coverSet_1.2.2.2.2.1 2 rfl ?_
    refine R_iload_n e_X12_coverSet_1.2.2.2.2.2.1 3 rfl ?_
    refine R_iload_n e_X12_coverSet_1.2.2.2.2.2.2.1 4 rfl ?_
    obtain ⟨q7, h⟩ := h
    refine R_callV (mc := 0) (ms := 0) (mc' := 0) (ms' := 0) (M' := M_X12_coverOf) (d' := 6) (as := [vI l1, vI l2, vI l3]) (st := [vA G 0]) 12 3 e_X12_coverSet_1.2.2.2.2.2.2.2.1 (kCVof m_X12_coverOf l_X12_456) rfl (by decide) km_0 (by decide) (by decide) rfl rfl (by show (1 : Nat) ≤ 8; decide) ?_
    refine Run.mono (P_X12_coverOf q7) (fun rr ss e => ?_)
    obtain ⟨e1, e2⟩ := e
    refine R_eqs (st2 := [vI (sCov (σ 1) (σ 5) (l1) (l2) (l3) (2 ^ ((σ 1) 2).toNat)), vA G 0]) (σ2 := σ) (by rw [e1]; rfl) e2 ?_
    obtain ⟨q10, h⟩ := h
    refine R_callV (mc := 0) (ms := 0) (mc' := 0) (ms' := 0) (M' := M_X12_orNone) (d' := 1) (as := [vI (sCov (σ 1) (σ 5) (l1) (l2) (l3) (2 ^ ((σ 1) 2).toNat))]) (st := []) 12 1 e_X12_coverSet_1.2.2.2.2.2.2.2.2.1 (kCVof m_X12_orNone l_X12_358) rfl (by decide) km_0 (by decide) (by decide) rfl rfl (by show (0 : Nat) ≤ 8; decide) ?_
    refine Run.mono (P_X12_orNone q10) (fun rr ss e => ?_)
    obtain ⟨e1, e2⟩ := e
    refine R_eqs (st2 := [vI (sCov (σ 1) (σ 5) (l1) (l2) (l3) (2 ^ ((σ 1) 2).toNat))]) (σ2 := (kup σ 0 2 (kif (((sCov (σ 1) (σ 5) (l1) (l2) (l3) (2 ^ ((σ 1) 2).toNat)) : Int) = -1) 6 0))) (by rw [e1]; rfl) e2 ?_
    exact R_ireturn e_X12_coverSet_1.2.2.2.2.2.2.2.2.2 rfl h
  · replace h := h.2 q
    refine R_aload_n e_X12_coverSet_0.2.2.2.2.2.2.2.2.1 1 rfl ?_
    refine R_iload e_X12_coverSet_0.2.2.2.2.2.2.2.2.2 0 rfl ?_
    refine R_callV (mc := 0) (ms := 0) (mc' := 0) (ms' := 0) (M' := M_X12_refuse) (d' := 0) (as := [vI (sWCo (σ 1) (σ 4) (σ 5) (l1) (l2) (l3))]) (st := []) 12 1 e_X12_coverSet_1.1 (kCVof m_X12_refuse l_X12_93) rfl (by decide) km_0 (by decide) (by decide) rfl rfl (by show (0 : Nat) ≤ 8; decide) ?_
    refine S_X12_refuse ?_
    refine R_eqs (st2 := [vI (-1)]) (σ2 := (kup σ 0 2 (sWCo (σ 1) (σ 4) (σ 5) (l1) (l2) (l3)))) rfl rfl ?_
    refine R_goto 34 e_X12_coverSet_1.2.1 (by decide) ?_
    exact R_ireturn e_X12_coverSet_1.2.2.2.2.2.2.2.2.2 rfl h
