/-! KiteLandModel.seasonOrder(II)Z -/
theorem e_X12_seasonOrder_0 : decode cX12_seasonOrder 0 = .ok (.iload_n 1, 1) ∧ decode cX12_seasonOrder 1 = .ok (.tableswitch 106 15 21 #[43, 64, 92, 92, 92, 100, 53], 43) ∧ decode cX12_seasonOrder 44 = .ok (.aload_n 0, 1) ∧ decode cX12_seasonOrder 45 = .ok (.iload_n 2, 1) ∧ decode cX12_seasonOrder 46 = .ok (.iconst 1, 1) ∧ decode cX12_seasonOrder 47 = .ok (.iadd, 1) ∧ decode cX12_seasonOrder 48 = .ok (.iconst 1, 1) ∧ decode cX12_seasonOrder 49 = .ok (.iconst 3, 1) ∧ decode cX12_seasonOrder 50 = .ok (.invokevirtual 199, 3) ∧ decode cX12_seasonOrder 53 = .ok (.ireturn, 1) := by decide +kernel
theorem e_X12_seasonOrder_1 : decode cX12_seasonOrder 54 = .ok (.aload_n 0, 1) ∧ decode cX12_seasonOrder 55 = .ok (.iload_n 2, 1) ∧ decode cX12_seasonOrder 56 = .ok (.iconst 1, 1) ∧ decode cX12_seasonOrder 57 = .ok (.iadd, 1) ∧ decode cX12_seasonOrder 58 = .ok (.iconst 1, 1) ∧ decode cX12_seasonOrder 59 = .ok (.bipush 99, 2) ∧ decode cX12_seasonOrder 61 = .ok (.invokevirtual 199, 3) ∧ decode cX12_seasonOrder 64 = .ok (.ireturn, 1) ∧ decode cX12_seasonOrder 65 = .ok (.aload_n 0, 1) ∧ decode cX12_seasonOrder 66 = .ok (.iload_n 2, 1) := by decide +kernel
theorem e_X12_seasonOrder_2 : decode cX12_seasonOrder 67 = .ok (.iconst 1, 1) ∧ decode cX12_seasonOrder 68 = .ok (.iadd, 1) ∧ decode cX12_seasonOrder 69 = .ok (.invokevirtual 247, 3) ∧ decode cX12_seasonOrder 72 = .ok (.ifCond .eq 19, 3) ∧ decode cX12_seasonOrder 75 = .ok (.aload_n 0, 1) ∧ decode cX12_seasonOrder 76 = .ok (.iload_n 2, 1) ∧ decode cX12_seasonOrder 77 = .ok (.iconst 2, 1) ∧ decode cX12_seasonOrder 78 = .ok (.iadd, 1) ∧ decode cX12_seasonOrder 79 = .ok (.iconst 1, 1) ∧ decode cX12_seasonOrder 80 = .ok (.iconst 4, 1) := by decide +kernel
theorem e_X12_seasonOrder_3 : decode cX12_seasonOrder 81 = .ok (.invokevirtual 199, 3) ∧ decode cX12_seasonOrder 84 = .ok (.ifCond .eq 7, 3) ∧ decode cX12_seasonOrder 87 = .ok (.iconst 1, 1) ∧ decode cX12_seasonOrder 88 = .ok (.goto 4, 3) ∧ decode cX12_seasonOrder 91 = .ok (.iconst 0, 1) ∧ decode cX12_seasonOrder 92 = .ok (.ireturn, 1) ∧ decode cX12_seasonOrder 93 = .ok (.aload_n 0, 1) ∧ decode cX12_seasonOrder 94 = .ok (.iload_n 2, 1) ∧ decode cX12_seasonOrder 95 = .ok (.iconst 1, 1) ∧ decode cX12_seasonOrder 96 = .ok (.iadd, 1) := by decide +kernel
theorem e_X12_seasonOrder_4 : decode cX12_seasonOrder 97 = .ok (.invokevirtual 247, 3) ∧ decode cX12_seasonOrder 100 = .ok (.ireturn, 1) ∧ decode cX12_seasonOrder 101 = .ok (.aload_n 0, 1) ∧ decode cX12_seasonOrder 102 = .ok (.iload_n 2, 1) ∧ decode cX12_seasonOrder 103 = .ok (.invokevirtual 250, 3) ∧ decode cX12_seasonOrder 106 = .ok (.ireturn, 1) ∧ decode cX12_seasonOrder 107 = .ok (.iconst 1, 1) ∧ decode cX12_seasonOrder 108 = .ok (.ireturn, 1) := by decide +kernel
theorem S_X12_seasonOrder {G : Kg} {σ : Kmem} {Q : Int → Kmem → Prop} {l1 l2 : Int}  (h : (rI l1) ∧ ((l1 = 15 → (tk1 σ ∧ ((0 : Int) ≤ (l2 + 1) ∧ ((l2 + 1) : Int) < 3598) ∧ rI (1) ∧ rI (3)) ∧ Q (kb ((cNum ((l2 + 1)) (1) (3) σ).1)) ((cNum ((l2 + 1)) (1) (3) σ).2)) ∧ (l1 = 16 → (tk3 σ ∧ (0 : Int) ≤ σ 1 2 ∧ (σ 1 2 : Int) ≤ 6 ∧ (2056 : Int) ≤ (l2 + 1) ∧ ((l2 + 1) : Int) < 2570) ∧ ((¬ ((cKT ((l2 + 1)) σ).1) → Q 0 ((cKT ((l2 + 1)) σ).2)) ∧ (((cKT ((l2 + 1)) σ).1) → (tk1 ((cKT ((l2 + 1)) σ).2) ∧ ((0 : Int) ≤ (l2 + 2) ∧ ((l2 + 2) : Int) < 3598) ∧ rI (1) ∧ rI (4)) ∧ ((¬ ((cNum ((l2 + 2)) (1) (4) ((cKT ((l2 + 1)) σ).2)).1) → Q 0 ((cNum ((l2 + 2)) (1) (4) ((cKT ((l2 + 1)) σ).2)).2)) ∧ (((cNum ((l2 + 2)) (1) (4) ((cKT ((l2 + 1)) σ).2)).1) → Q 1 ((cNum ((l2 + 2)) (1) (4) ((cKT ((l2 + 1)) σ).2)).2)))))) ∧ (l1 = 17 → (tk3 σ ∧ (0 : Int) ≤ σ 1 2 ∧ (σ 1 2 : Int) ≤ 6 ∧ (2056 : Int) ≤ (l2 + 1) ∧ ((l2 + 1) : Int) < 2570) ∧ Q (kb ((cKT ((l2 + 1)) σ).1)) ((cKT ((l2 + 1)) σ).2)) ∧ (l1 = 18 → (tk3 σ ∧ (0 : Int) ≤ σ 1 2 ∧ (σ 1 2 : Int) ≤ 6 ∧ (2056 : Int) ≤ (l2 + 1) ∧ ((l2 + 1) : Int) < 2570) ∧ Q (kb ((cKT ((l2 + 1)) σ).1)) ((cKT ((l2 + 1)) σ).2)) ∧ (l1 = 19 → (tk3 σ ∧ (0 : Int) ≤ σ 1 2 ∧ (σ 1 2 : Int) ≤ 6 ∧ (2056 : Int) ≤ (l2 + 1) ∧ ((l2 + 1) : Int) < 2570) ∧ Q (kb ((cKT ((l2 + 1)) σ).1)) ((cKT ((l2 + 1)) σ).2)) ∧ (l1 = 20 → (sk0 σ ∧ (2206 : Int) ≤ l2 ∧ (l2 : Int) ≤ 2560) ∧ Q (kb ((cTest (l2) σ).1)) ((cTest (l2) σ).2)) ∧ (l1 = 21 → (tk1 σ ∧ ((0 : Int) ≤ (l2 + 1) ∧ ((l2 + 1) : Int) < 3598) ∧ rI (1) ∧ rI (99)) ∧ Q (kb ((cNum ((l2 + 1)) (1) (99) σ).1)) ((cNum ((l2 + 1)) (1) (99) σ).2)) ∧ (l1 < 15 ∨ 21 < l1 → Q 1 σ))) : Run G WM M_X12_seasonOrder 9 0 0 [vA G 0, vI l1, vI l2] σ Q := by
  refine Run.of (by decide +kernel) (by show (3 : Nat) ≤ 3; decide) ?_
  show Ex G WM M_X12_seasonOrder 9 0 0 0 [(0, vA G 0), (1, vI l1), (2, vI l2)] [] σ Q
  refine R_iload_n e_X12_seasonOrder_0.1 1 rfl ?_
  obtain ⟨q1, h⟩ := h
  by_cases t15 : l1 = 15
  · refine R_tableIn 44 e_X12_seasonOrder_0.2.1 q1 (by omega) (by omega) (off := 43) (by rw [t15]; rfl) (by decide) ?_
    replace h := h.1 t15
    refine R_aload_n e_X12_seasonOrder_0.2.2.1 0 rfl ?_
    refine R_iload_n e_X12_seasonOrder_0.2.2.2.1 2 rfl ?_
    refine R_iconst e_X12_seasonOrder_0.2.2.2.2.1 ?_
    refine R_iadd e_X12_seasonOrder_0.2.2.2.2.2.1 ?_
    refine R_iconst e_X12_seasonOrder_0.2.2.2.2.2.2.1 ?_
    refine R_iconst e_X12_seasonOrder_0.2.2.2.2.2.2.2.1 ?_
    obtain ⟨q4, h⟩ := h
    refine R_callV (mc := 0) (ms := 0) (mc' := 0) (ms' := 0) (M' := M_X12_number) (d' := 2) (as := [vI (l2 + 1), vI 1, vI 3]) (st := []) 12 3 e_X12_seasonOrder_0.2.2.2.2.2.2.2.2.1 (kCVof m_X12_number l_X12_199) rfl (by decide) km_0 (by decide) (by decide) rfl rfl (by show (0 : Nat) ≤ 8; decide) ?_
    refine Run.mono (P_X12_number q4) (fun r s e => ?_)
    obtain ⟨e1, e2⟩ := e
    refine R_eqs (st2 := [vI (kb ((cNum ((l2 + 1)) (1) (3) σ).1))]) (σ2 := ((cNum ((l2 + 1)) (1) (3) σ).2)) (by rw [e1]; rfl) e2 ?_
    exact R_zreturn e_X12_seasonOrder_0.2.2.2.2.2.2.2.2.2 rfl (kb_01 _) h
  by_cases t16 : l1 = 16
  · refine R_tableIn 65 e_X12_seasonOrder_0.2.1 q1 (by omega) (by omega) (off := 64) (by rw [t16]; rfl) (by decide) ?_
    replace h := h.2.1 t16
    refine R_aload_n e_X12_seasonOrder_1.2.2.2.2.2.2.2.2.1 0 rfl ?_
    refine R_iload_n e_X12_seasonOrder_1.2.2.2.2.2.2.2.2.2 2 rfl ?_
    refine R_iconst e_X12_seasonOrder_2.1 ?_
    refine R_iadd e_X12_seasonOrder_2.2.1 ?_
    obtain ⟨q7, h⟩ := h
    refine R_callV (mc := 0) (ms := 0) (mc' := 0) (ms' := 0) (M' := M_X12_kiteTo) (d' := 7) (as := [vI (l2 + 1)]) (st := []) 12 1 e_X12_seasonOrder_2.2.2.1 (kCVof m_X12_kiteTo l_X12_247) rfl (by decide) km_0 (by decide) (by decide) rfl rfl (by show (0 : Nat) ≤ 8; decide) ?_
    refine Run.mono (P_X12_kiteTo q7) (fun r s e => ?_)
    obtain ⟨e1, e2⟩ := e
    refine R_eqs (st2 := [vI (kb ((cKT ((l2 + 1)) σ).1))]) (σ2 := ((cKT ((l2 + 1)) σ).2)) (by rw [e1]; rfl) e2 ?_
    refine R_if_eq 91 e_X12_seasonOrder_2.2.2.2.1 (by decide) (kb_r _) (fun q => ?_) (fun q => ?_)
    · replace h := h.1 (kb_f q)
      refine R_iconst e_X12_seasonOrder_3.2.2.2.2.1 ?_
      exact R_zreturn e_X12_seasonOrder_3.2.2.2.2.2.1 rfl (Or.inl rfl) h
    · replace h := h.2 (kb_t q)
      refine R_aload_n e_X12_seasonOrder_2.2.2.2.2.1 0 rfl ?_
      refine R_iload_n e_X12_seasonOrder_2.2.2.2.2.2.1 2 rfl ?_
      refine R_iconst e_X12_seasonOrder_2.2.2.2.2.2.2.1 ?_
      refine R_iadd e_X12_seasonOrder_2.2.2.2.2.2.2.2.1 ?_
      refine R_iconst e_X12_seasonOrder_2.2.2.2.2.2.2.2.2.1 ?_
      refine R_iconst e_X12_seasonOrder_2.2.2.2.2.2.2.2.2.2 ?_
      obtain ⟨q10, h⟩ := h
      refine R_callV (mc := 0) (ms := 0) (mc' := 0) (ms' := 0) (M' := M_X12_number) (d' := 2) (as := [vI (l2 + 2), vI 1, vI 4]) (st := []) 12 3 e_X12_seasonOrder_3.1 (kCVof m_X12_number l_X12_199) rfl (by decide) km_0 (by decide) (by decide) rfl rfl (by show (0 : Nat) ≤ 8; decide) ?_
      refine Run.mono (P_X12_number q10) (fun r s e => ?_)
      obtain ⟨e1, e2⟩ := e
      refine R_eqs (st2 := [vI (kb ((cNum ((l2 + 2)) (1) (4) ((cKT ((l2 + 1)) σ).2)).1))]) (σ2 := ((cNum ((l2 + 2)) (1) (4) ((cKT ((l2 + 1)) σ).2)).2)) (by rw [e1]; rfl) e2 ?_
      refine R_if_eq 91 e_X12_seasonOrder_3.2.1 (by decide) (kb_r _) (fun q => ?_) (fun q => ?_)
      · replace h := h.1 (kb_f q)
        refine R_iconst e_X12_seasonOrder_3.2.2.2.2.1 ?_
        exact R_zreturn e_X12_seasonOrder_3.2.2.2.2.2.1 rfl (Or.inl rfl) h
      · replace h := h.2 (kb_t q)
        refine R_iconst e_X12_seasonOrder_3.2.2.1 ?_
        refine R_goto 92 e_X12_seasonOrder_3.2.2.2.1 (by decide) ?_
        exact R_zreturn e_X12_seasonOrder_3.2.2.2.2.2.1 rfl (Or.inr rfl) h
  by_cases t17 : l1 = 17
  · refine R_tableIn 93 e_X12_seasonOrder_0.2.1 q1 (by omega) (by omega) (off := 92) (by rw [t17]; rfl) (by decide) ?_
    replace h := h.2.2.1 t17
    refine R_aload_n e_X12_seasonOrder_3.2.2.2.2.2.2.1 0 rfl ?_
    refine R_iload_n e_X12_seasonOrder_3.2.2.2.2.2.2.2.1 2 rfl ?_
    refine R_iconst e_X12_seasonOrder_3.2.2.2.2.2.2.2.2.1 ?_
    refine R_iadd e_X12_seasonOrder_3.2.2.2.2.2.2.2.2.2 ?_
    obtain ⟨q13, h⟩ := h
    refine R_callV (mc := 0) (ms := 0) (mc' := 0) (ms' := 0) (M' := M_X12_kiteTo) (d' := 7) (as := [vI (l2 + 1)]) (st := []) 12 1 e_X12_seasonOrder_4.1 (kCVof m_X12_kiteTo l_X12_247) rfl (by decide) km_0 (by decide) (by decide) rfl rfl (by show (0 : Nat) ≤ 8; decide) ?_
    refine Run.mono (P_X12_kiteTo q13) (fun r s e => ?_)
    obtain ⟨e1, e2⟩ := e
    refine R_eqs (st2 := [vI (kb ((cKT ((l2 + 1)) σ).1))]) (σ2 := ((cKT ((l2 + 1)) σ).2)) (by rw [e1]; rfl) e2 ?_
    exact R_zreturn e_X12_seasonOrder_4.2.1 rfl (kb_01 _) h
  by_cases t18 : l1 = 18
  · refine R_tableIn 93 e_X12_seasonOrder_0.2.1 q1 (by omega) (by omega) (off := 92) (by rw [t18]; rfl) (by decide) ?_
    replace h := h.2.2.2.1 t18
    refine R_aload_n e_X12_seasonOrder_3.2.2.2.2.2.2.1 0 rfl ?_
    refine R_iload_n e_X12_seasonOrder_3.2.2.2.2.2.2.2.1 2 rfl ?_
    refine R_iconst e_X12_seasonOrder_3.2.2.2.2.2.2.2.2.1 ?_
    refine R_iadd e_X12_seasonOrder_3.2.2.2.2.2.2.2.2.2 ?_
    obtain ⟨q16, h⟩ := h
    refine R_callV (mc := 0) (ms := 0) (mc' := 0) (ms' := 0) (M' := M_X12_kiteTo) (d' := 7) (as := [vI (l2 + 1)]) (st := []) 12 1 e_X12_seasonOrder_4.1 (kCVof m_X12_kiteTo l_X12_247) rfl (by decide) km_0 (by decide) (by decide) rfl rfl (by show (0 : Nat) ≤ 8; decide) ?_
    refine Run.mono (P_X12_kiteTo q16) (fun r s e => ?_)
    obtain ⟨e1, e2⟩ := e
    refine R_eqs (st2 := [vI (kb ((cKT ((l2 + 1)) σ).1))]) (σ2 := ((cKT ((l2 + 1)) σ).2)) (by rw [e1]; rfl) e2 ?_
    exact R_zreturn e_X12_seasonOrder_4.2.1 rfl (kb_01 _) h
  by_cases t19 : l1 = 19
  · refine R_tableIn 93 e_X12_seasonOrder_0.2.1 q1 (by omega) (by omega) (off := 92) (by rw [t19]; rfl) (by decide) ?_
    replace h := h.2.2.2.2.1 t19
    refine R_aload_n e_X12_seasonOrder_3.2.2.2.2.2.2.1 0 rfl ?_
    refine R_iload_n e_X12_seasonOrder_3.2.2.2.2.2.2.2.1 2 rfl ?_
    refine R_iconst e_X12_seasonOrder_3.2.2.2.2.2.2.2.2.1 ?_
    refine R_iadd e_X12_seasonOrder_3.2.2.2.2.2.2.2.2.2 ?_
    obtain ⟨q19, h⟩ := h
    refine R_callV (mc := 0) (ms := 0) (mc' := 0) (ms' := 0) (M' := M_X12_kiteTo) (d' := 7) (as := [vI (l2 + 1)]) (st := []) 12 1 e_X12_seasonOrder_4.1 (kCVof m_X12_kiteTo l_X12_247) rfl (by decide) km_0 (by decide) (by decide) rfl rfl (by show (0 : Nat) ≤ 8; decide) ?_
    refine Run.mono (P_X12_kiteTo q19) (fun r s e => ?_)
    obtain ⟨e1, e2⟩ := e
    refine R_eqs (st2 := [vI (kb ((cKT ((l2 + 1)) σ).1))]) (σ2 := ((cKT ((l2 + 1)) σ).2)) (by rw [e1]; rfl) e2 ?_
    exact R_zreturn e_X12_seasonOrder_4.2.1 rfl (kb_01 _) h
  by_cases t20 : l1 = 20
  · refine R_tableIn 101 e_X12_seasonOrder_0.2.1 q1 (by omega) (by omega) (off := 100) (by rw [t20]; rfl) (by decide) ?_
    replace h := h.2.2.2.2.2.1 t20
    refine R_aload_n e_X12_seasonOrder_4.2.2.1 0 rfl ?_
    refine R_iload_n e_X12_seasonOrder_4.2.2.2.1 2 rfl ?_
    obtain ⟨q22, h⟩ := h
    refine R_callV (mc := 0) (ms := 0) (mc' := 0) (ms' := 0) (M' := M_X12_test) (d' := 8) (as := [vI l2]) (st := []) 12 1 e_X12_seasonOrder_4.2.2.2.2.1 (kCVof m_X12_test l_X12_250) rfl (by decide) km_0 (by decide) (by decide) rfl rfl (by show (0 : Nat) ≤ 8; decide) ?_
    refine Run.mono (P_X12_test q22) (fun r s e => ?_)
    obtain ⟨e1, e2⟩ := e
    refine R_eqs (st2 := [vI (kb ((cTest (l2) σ).1))]) (σ2 := ((cTest (l2) σ).2)) (by rw [e1]; rfl) e2 ?_
    exact R_zreturn e_X12_seasonOrder_4.2.2.2.2.2.1 rfl (kb_01 _) h
  by_cases t21 : l1 = 21
  · refine R_tableIn 54 e_X12_seasonOrder_0.2.1 q1 (by omega) (by omega) (off := 53) (by rw [t21]; rfl) (by decide) ?_
    replace h := h.2.2.2.2.2.2.1 t21
    refine R_aload_n e_X12_seasonOrder_1.1 0 rfl ?_
    refine R_iload_n e_X12_seasonOrder_1.2.1 2 rfl ?_
    refine R_iconst e_X12_seasonOrder_1.2.2.1 ?_
    refine R_iadd e_X12_seasonOrder_1.2.2.2.1 ?_
    refine R_iconst e_X12_seasonOrder_1.2.2.2.2.1 ?_
    refine R_bipush e_X12_seasonOrder_1.2.2.2.2.2.1 (by decide) ?_
    obtain ⟨q25, h⟩ := h
    refine R_callV (mc := 0) (ms := 0) (mc' := 0) (ms' := 0) (M' := M_X12_number) (d' := 2) (as := [vI (l2 + 1), vI 1, vI 99]) (st := []) 12 3 e_X12_seasonOrder_1.2.2.2.2.2.2.1 (kCVof m_X12_number l_X12_199) rfl (by decide) km_0 (by decide) (by decide) rfl rfl (by show (0 : Nat) ≤ 8; decide) ?_
    refine Run.mono (P_X12_number q25) (fun r s e => ?_)
    obtain ⟨e1, e2⟩ := e
    refine R_eqs (st2 := [vI (kb ((cNum ((l2 + 1)) (1) (99) σ).1))]) (σ2 := ((cNum ((l2 + 1)) (1) (99) σ).2)) (by rw [e1]; rfl) e2 ?_
    exact R_zreturn e_X12_seasonOrder_1.2.2.2.2.2.2.2.1 rfl (kb_01 _) h
  refine R_tableOut 107 e_X12_seasonOrder_0.2.1 q1 (by omega) (by decide) ?_
  replace h := h.2.2.2.2.2.2.2 (by omega)
  refine R_iconst e_X12_seasonOrder_4.2.2.2.2.2.2.1 ?_
  exact R_zreturn e_X12_seasonOrder_4.2.2.2.2.2.2.2 rfl (Or.inr rfl) h
