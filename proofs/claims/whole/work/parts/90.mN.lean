/-! KiteLandModel.newOne(III)Z -/
theorem e_X12_newOne_0 : decode cX12_newOne 0 = .ok (.aload_n 0, 1) ∧ decode cX12_newOne 1 = .ok (.getfield 7, 3) ∧ decode cX12_newOne 4 = .ok (.sipush 2056, 3) ∧ decode cX12_newOne 7 = .ok (.iload_n 1, 1) ∧ decode cX12_newOne 8 = .ok (.iadd, 1) ∧ decode cX12_newOne 9 = .ok (.iaload, 1) ∧ decode cX12_newOne 10 = .ok (.iload_n 2, 1) ∧ decode cX12_newOne 11 = .ok (.if_icmp .ne 10, 3) ∧ decode cX12_newOne 14 = .ok (.aload_n 0, 1) ∧ decode cX12_newOne 15 = .ok (.bipush 6, 2) := by decide +kernel
theorem e_X12_newOne_1 : decode cX12_newOne 17 = .ok (.invokevirtual 175, 3) ∧ decode cX12_newOne 20 = .ok (.ireturn, 1) ∧ decode cX12_newOne 21 = .ok (.aload_n 0, 1) ∧ decode cX12_newOne 22 = .ok (.invokevirtual 169, 3) ∧ decode cX12_newOne 25 = .ok (.aload_n 0, 1) ∧ decode cX12_newOne 26 = .ok (.ldc 186, 2) ∧ decode cX12_newOne 28 = .ok (.invokevirtual 188, 3) ∧ decode cX12_newOne 31 = .ok (.ifCond .ne 9, 3) ∧ decode cX12_newOne 34 = .ok (.aload_n 0, 1) ∧ decode cX12_newOne 35 = .ok (.iconst 2, 1) := by decide +kernel
theorem e_X12_newOne_2 : decode cX12_newOne 36 = .ok (.invokevirtual 175, 3) ∧ decode cX12_newOne 39 = .ok (.ireturn, 1) ∧ decode cX12_newOne 40 = .ok (.aload_n 0, 1) ∧ decode cX12_newOne 41 = .ok (.bipush 80, 2) ∧ decode cX12_newOne 43 = .ok (.aload_n 0, 1) ∧ decode cX12_newOne 44 = .ok (.getfield 7, 3) ∧ decode cX12_newOne 47 = .ok (.sipush 2058, 3) ∧ decode cX12_newOne 50 = .ok (.iaload, 1) ∧ decode cX12_newOne 51 = .ok (.invokevirtual 192, 3) ∧ decode cX12_newOne 54 = .ok (.iconst (-1), 1) := by decide +kernel
theorem e_X12_newOne_3 : decode cX12_newOne 55 = .ok (.if_icmp .ne 39, 3) ∧ decode cX12_newOne 58 = .ok (.aload_n 0, 1) ∧ decode cX12_newOne 59 = .ok (.bipush 86, 2) ∧ decode cX12_newOne 61 = .ok (.aload_n 0, 1) ∧ decode cX12_newOne 62 = .ok (.getfield 7, 3) ∧ decode cX12_newOne 65 = .ok (.sipush 2059, 3) ∧ decode cX12_newOne 68 = .ok (.iaload, 1) ∧ decode cX12_newOne 69 = .ok (.invokevirtual 192, 3) ∧ decode cX12_newOne 72 = .ok (.iconst (-1), 1) ∧ decode cX12_newOne 73 = .ok (.if_icmp .ne 21, 3) := by decide +kernel
theorem e_X12_newOne_4 : decode cX12_newOne 76 = .ok (.aload_n 0, 1) ∧ decode cX12_newOne 77 = .ok (.bipush 94, 2) ∧ decode cX12_newOne 79 = .ok (.aload_n 0, 1) ∧ decode cX12_newOne 80 = .ok (.getfield 7, 3) ∧ decode cX12_newOne 83 = .ok (.sipush 2060, 3) ∧ decode cX12_newOne 86 = .ok (.iaload, 1) ∧ decode cX12_newOne 87 = .ok (.invokevirtual 192, 3) ∧ decode cX12_newOne 90 = .ok (.iconst (-1), 1) ∧ decode cX12_newOne 91 = .ok (.if_icmp .eq 9, 3) ∧ decode cX12_newOne 94 = .ok (.aload_n 0, 1) := by decide +kernel
theorem e_X12_newOne_5 : decode cX12_newOne 95 = .ok (.iconst 3, 1) ∧ decode cX12_newOne 96 = .ok (.invokevirtual 175, 3) ∧ decode cX12_newOne 99 = .ok (.ireturn, 1) ∧ decode cX12_newOne 100 = .ok (.aload_n 0, 1) ∧ decode cX12_newOne 101 = .ok (.getfield 13, 3) ∧ decode cX12_newOne 104 = .ok (.bipush 80, 2) ∧ decode cX12_newOne 106 = .ok (.iload_n 3, 1) ∧ decode cX12_newOne 107 = .ok (.iadd, 1) ∧ decode cX12_newOne 108 = .ok (.aload_n 0, 1) ∧ decode cX12_newOne 109 = .ok (.getfield 7, 3) := by decide +kernel
theorem e_X12_newOne_6 : decode cX12_newOne 112 = .ok (.sipush 2056, 3) ∧ decode cX12_newOne 115 = .ok (.iload_n 1, 1) ∧ decode cX12_newOne 116 = .ok (.iadd, 1) ∧ decode cX12_newOne 117 = .ok (.iaload, 1) ∧ decode cX12_newOne 118 = .ok (.iadd, 1) ∧ decode cX12_newOne 119 = .ok (.aload_n 0, 1) ∧ decode cX12_newOne 120 = .ok (.invokevirtual 182, 3) ∧ decode cX12_newOne 123 = .ok (.lastore, 1) ∧ decode cX12_newOne 124 = .ok (.aload_n 0, 1) ∧ decode cX12_newOne 125 = .ok (.invokevirtual 169, 3) := by decide +kernel
theorem e_X12_newOne_7 : decode cX12_newOne 128 = .ok (.iconst 1, 1) ∧ decode cX12_newOne 129 = .ok (.ireturn, 1) := by decide +kernel
theorem S_X12_newOne {G : Kg} {σ : Kmem} {Q : Int → Kmem → Prop} {l1 l2 l3 : Int}  (h : (0 ≤ 2056 + l1 ∧ 2056 + l1 < 3598) ∧ (rI (σ 1 (2056 + l1))) ∧ (rI l2) ∧ ((σ 1 (2056 + l1) ≠ l2 → (tx0 σ) ∧ (tok (tA σ)) ∧ ((((tA σ) 0 12 = 2 ∧ (tA σ) 0 14 - (tA σ) 0 13 ≤ 8 ∧ tWi (tA σ) = -1) → ((tok (tA σ) ∧ (tA σ) 0 12 = 2 ∧ (tA σ) 0 14 - (tA σ) 0 13 ≤ 8) ∧ nmR (tA σ) ∧ ((0 : Int) ≤ 80 ∧ (0 : Int) ≤ ((tA σ) 1 2058) ∧ (80 : Int) + ((tA σ) 1 2058) ≤ 120)) ∧ (rI (tFi (tA σ) (80) (((tA σ) 1 2058)))) ∧ ((tFi (tA σ) (80) (((tA σ) 1 2058)) ≠ -1 → (tok (tA σ) ∧ (0 : Int) ≤ (tA σ) 0 18 ∧ ((tA σ) 0 18 : Int) ≤ 9) ∧ Q 0 (tF (tA σ) (3))) ∧ (tFi (tA σ) (80) (((tA σ) 1 2058)) = -1 → ((tok (tA σ) ∧ (tA σ) 0 12 = 2 ∧ (tA σ) 0 14 - (tA σ) 0 13 ≤ 8) ∧ nmR (tA σ) ∧ ((0 : Int) ≤ 86 ∧ (0 : Int) ≤ ((tA σ) 1 2059) ∧ (86 : Int) + ((tA σ) 1 2059) ≤ 120)) ∧ (rI (tFi (tA σ) (86) (((tA σ) 1 2059)))) ∧ ((tFi (tA σ) (86) (((tA σ) 1 2059)) ≠ -1 → (tok (tA σ) ∧ (0 : Int) ≤ (tA σ) 0 18 ∧ ((tA σ) 0 18 : Int) ≤ 9) ∧ Q 0 (tF (tA σ) (3))) ∧ (tFi (tA σ) (86) (((tA σ) 1 2059)) = -1 → ((tok (tA σ) ∧ (tA σ) 0 12 = 2 ∧ (tA σ) 0 14 - (tA σ) 0 13 ≤ 8) ∧ nmR (tA σ) ∧ ((0 : Int) ≤ 94 ∧ (0 : Int) ≤ ((tA σ) 1 2060) ∧ (94 : Int) + ((tA σ) 1 2060) ≤ 120)) ∧ (rI (tFi (tA σ) (94) (((tA σ) 1 2060)))) ∧ ((tFi (tA σ) (94) (((tA σ) 1 2060)) = -1 → (0 ≤ 2056 + l1 ∧ 2056 + l1 < 3598) ∧ (tok (tA σ) ∧ (tA σ) 0 12 = 2 ∧ (tA σ) 0 14 - (tA σ) 0 13 ≤ 8) ∧ (0 ≤ (80 + l3) + ((tA σ) 1 (2056 + l1)) ∧ (80 + l3) + ((tA σ) 1 (2056 + l1)) < 120) ∧ ∀ m33 : Kmem, m33 = (kup (tA σ) 2 ((80 + l3) + ((tA σ) 1 (2056 + l1))) (tNm (tA σ))) → (tx0 m33) ∧ Q 1 (tA m33)) ∧ (tFi (tA σ) (94) (((tA σ) 1 2060)) ≠ -1 → (tok (tA σ) ∧ (0 : Int) ≤ (tA σ) 0 18 ∧ ((tA σ) 0 18 : Int) ≤ 9) ∧ Q 0 (tF (tA σ) (3))))))))) ∧ (¬ ((tA σ) 0 12 = 2 ∧ (tA σ) 0 14 - (tA σ) 0 13 ≤ 8 ∧ tWi (tA σ) = -1) → (tok (tA σ) ∧ (0 : Int) ≤ (tA σ) 0 18 ∧ ((tA σ) 0 18 : Int) ≤ 9) ∧ Q 0 (tF (tA σ) (2))))) ∧ (σ 1 (2056 + l1) = l2 → (tok σ ∧ (0 : Int) ≤ σ 0 18 ∧ (σ 0 18 : Int) ≤ 9) ∧ Q 0 (tF σ (6))))) : Run G WM M_X12_newOne 6 0 0 [vA G 0, vI l1, vI l2, vI l3] σ Q := by
  refine Run.of (by decide +kernel) (by show (4 : Nat) ≤ 4; decide) ?_
  show Ex G WM M_X12_newOne 6 0 0 0 [(0, vA G 0), (1, vI l1), (2, vI l2), (3, vI l3)] [] σ Q
  refine R_aload_n e_X12_newOne_0.1 0 rfl ?_
  refine R_getA 12 0 1 e_X12_newOne_0.2.1 f_X12_7 km_0 (fun _ _ => rfl) rm_0_0 (by decide) ?_
  refine R_sipush e_X12_newOne_0.2.2.1 (by decide) ?_
  refine R_iload_n e_X12_newOne_0.2.2.2.1 1 rfl ?_
  refine R_iadd e_X12_newOne_0.2.2.2.2.1 ?_
  obtain ⟨q1, h⟩ := h
  refine R_iald 3598 e_X12_newOne_0.2.2.2.2.2.1 kma_1 q1 ?_
  refine R_iload_n e_X12_newOne_0.2.2.2.2.2.2.1 2 rfl ?_
  obtain ⟨q2, h⟩ := h
  obtain ⟨q3, h⟩ := h
  refine R_icmp_ne 21 e_X12_newOne_0.2.2.2.2.2.2.2.1 (by decide) q2 q3 (fun q => ?_) (fun q => ?_)
  · replace h := h.1 q
    refine R_aload_n e_X12_newOne_1.2.2.1 0 rfl ?_
    obtain ⟨q6, h⟩ := h
    refine R_callV (mc := 0) (ms := 0) (mc' := 0) (ms' := 0) (M' := M_X12_ahead) (d' := 1) (as := []) (st := []) 12 0 e_X12_newOne_1.2.2.2.1 (kCVof m_X12_ahead l_X12_169) rfl (by decide) km_0 (by decide) (by decide) rfl rfl (by show (0 : Nat) ≤ 8; decide) ?_
    refine Run.mono (P_X12_ahead q6) (fun r s e => ?_)
    obtain ⟨e1, e2⟩ := e
    refine R_eqs (st2 := []) (σ2 := (tA σ)) (by rfl) e2 ?_
    refine R_aload_n e_X12_newOne_1.2.2.2.2.1 0 rfl ?_
    refine R_ldcS (i := 28) (-38) e_X12_newOne_1.2.2.2.2.2.1 rfl rfl ?_
    obtain ⟨q9, h⟩ := h
    refine R_callV (mc := 0) (ms := 0) (mc' := 0) (ms' := 0) (M' := M_X12_isName) (d' := 5) (as := [vA G (-38)]) (st := []) 12 1 e_X12_newOne_1.2.2.2.2.2.2.1 (kCVof m_X12_isName l_X12_188) rfl (by decide) km_0 (by decide) (by decide) rfl rfl (by show (0 : Nat) ≤ 8; decide) ?_
    refine Run.mono (P_X12_isName q9) (fun r s e => ?_)
    obtain ⟨e1, e2⟩ := e
    refine R_eqs (st2 := [vI (kb ((tA σ) 0 12 = 2 ∧ (tA σ) 0 14 - (tA σ) 0 13 ≤ 8 ∧ tWi (tA σ) = -1))]) (σ2 := (tA σ)) (by rw [e1]; rfl) e2 ?_
    refine R_if_ne 40 e_X12_newOne_1.2.2.2.2.2.2.2.1 (by decide) (kb_r _) (fun q => ?_) (fun q => ?_)
    · replace h := h.1 (kb_t q)
      refine R_aload_n e_X12_newOne_2.2.2.1 0 rfl ?_
      refine R_bipush e_X12_newOne_2.2.2.2.1 (by decide) ?_
      refine R_aload_n e_X12_newOne_2.2.2.2.2.1 0 rfl ?_
      refine R_getA 12 0 1 e_X12_newOne_2.2.2.2.2.2.1 f_X12_7 km_0 (fun _ _ => rfl) rm_0_0 (by decide) ?_
      refine R_sipush e_X12_newOne_2.2.2.2.2.2.2.1 (by decide) ?_
      refine R_iald 3598 e_X12_newOne_2.2.2.2.2.2.2.2.1 kma_1 (by decide) ?_
      obtain ⟨q12, h⟩ := h
      refine R_callV (mc := 0) (ms := 0) (mc' := 0) (ms' := 0) (M' := M_X12_findHere) (d' := 2) (as := [vI 80, vI ((tA σ) 1 2058)]) (st := []) 12 2 e_X12_newOne_2.2.2.2.2.2.2.2.2.1 (kCVof m_X12_findHere l_X12_192) rfl (by decide) km_0 (by decide) (by decide) rfl rfl (by show (0 : Nat) ≤ 8; decide) ?_
      refine Run.mono (P_X12_findHere q12) (fun r s e => ?_)
      obtain ⟨e1, e2⟩ := e
      refine R_eqs (st2 := [vI (tFi (tA σ) (80) (((tA σ) 1 2058)))]) (σ2 := (tA σ)) (by rw [e1]; rfl) e2 ?_
      refine R_iconst e_X12_newOne_2.2.2.2.2.2.2.2.2.2 ?_
      obtain ⟨q13, h⟩ := h
      refine R_icmp_ne 94 e_X12_newOne_3.1 (by decide) q13 (by decide) (fun q => ?_) (fun q => ?_)
      · replace h := h.1 q
        refine R_aload_n e_X12_newOne_4.2.2.2.2.2.2.2.2.2 0 rfl ?_
        refine R_iconst e_X12_newOne_5.1 ?_
        obtain ⟨q16, h⟩ := h
        refine R_callV (mc := 0) (ms := 0) (mc' := 0) (ms' := 0) (M' := M_X12_fails) (d' := 0) (as := [vI 3]) (st := []) 12 1 e_X12_newOne_5.2.1 (kCVof m_X12_fails l_X12_175) rfl (by decide) km_0 (by decide) (by decide) rfl rfl (by show (0 : Nat) ≤ 8; decide) ?_
        refine Run.mono (P_X12_fails q16) (fun r s e => ?_)
        obtain ⟨e1, e2⟩ := e
        refine R_eqs (st2 := [vI 0]) (σ2 := (tF (tA σ) (3))) (by rw [e1]; rfl) e2 ?_
        exact R_zreturn e_X12_newOne_5.2.2.1 rfl (Or.inl rfl) h
      · replace h := h.2 q
        refine R_aload_n e_X12_newOne_3.2.1 0 rfl ?_
        refine R_bipush e_X12_newOne_3.2.2.1 (by decide) ?_
        refine R_aload_n e_X12_newOne_3.2.2.2.1 0 rfl ?_
        refine R_getA 12 0 1 e_X12_newOne_3.2.2.2.2.1 f_X12_7 km_0 (fun _ _ => rfl) rm_0_0 (by decide) ?_
        refine R_sipush e_X12_newOne_3.2.2.2.2.2.1 (by decide) ?_
        refine R_iald 3598 e_X12_newOne_3.2.2.2.2.2.2.1 kma_1 (by decide) ?_
        obtain ⟨q19, h⟩ := h
        refine R_callV (mc := 0) (ms := 0) (mc' := 0) (ms' := 0) (M' := M_X12_findHere) (d' := 2) (as := [vI 86, vI ((tA σ) 1 2059)]) (st := []) 12 2 e_X12_newOne_3.2.2.2.2.2.2.2.1 (kCVof m_X12_findHere l_X12_192) rfl (by decide) km_0 (by decide) (by decide) rfl rfl (by show (0 : Nat) ≤ 8; decide) ?_
        refine Run.mono (P_X12_findHere q19) (fun r s e => ?_)
        obtain ⟨e1, e2⟩ := e
        refine R_eqs (st2 := [vI (tFi (tA σ) (86) (((tA σ) 1 2059)))]) (σ2 := (tA σ)) (by rw [e1]; rfl) e2 ?_
        refine R_iconst e_X12_newOne_3.2.2.2.2.2.2.2.2.1 ?_
        obtain ⟨q20, h⟩ := h
        refine R_icmp_ne 94 e_X12_newOne_3.2.2.2.2.2.2.2.2.2 (by decide) q20 (by decide) (fun q => ?_) (fun q => ?_)
        · replace h := h.1 q
          refine R_aload_n e_X12_newOne_4.2.2.2.2.2.2.2.2.2 0 rfl ?_
          refine R_iconst e_X12_newOne_5.1 ?_
          obtain ⟨q23, h⟩ := h
          refine R_callV (mc := 0) (ms := 0) (mc' := 0) (ms' := 0) (M' := M_X12_fails) (d' := 0) (as := [vI 3]) (st := []) 12 1 e_X12_newOne_5.2.1 (kCVof m_X12_fails l_X12_175) rfl (by decide) km_0 (by decide) (by decide) rfl rfl (by show (0 : Nat) ≤ 8; decide) ?_
          refine Run.mono (P_X12_fails q23) (fun r s e => ?_)
          obtain ⟨e1, e2⟩ := e
          refine R_eqs (st2 := [vI 0]) (σ2 := (tF (tA σ) (3))) (by rw [e1]; rfl) e2 ?_
          exact R_zreturn e_X12_newOne_5.2.2.1 rfl (Or.inl rfl) h
        · replace h := h.2 q
          refine R_aload_n e_X12_newOne_4.1 0 rfl ?_
          refine R_bipush e_X12_newOne_4.2.1 (by decide) ?_
          refine R_aload_n e_X12_newOne_4.2.2.1 0 rfl ?_
          refine R_getA 12 0 1 e_X12_newOne_4.2.2.2.1 f_X12_7 km_0 (fun _ _ => rfl) rm_0_0 (by decide) ?_
          refine R_sipush e_X12_newOne_4.2.2.2.2.1 (by decide) ?_
          refine R_iald 3598 e_X12_newOne_4.2.2.2.2.2.1 kma_1 (by decide) ?_
          obtain ⟨q26, h⟩ := h
          refine R_callV (mc := 0) (ms := 0) (mc' := 0) (ms' := 0) (M' := M_X12_findHere) (d' := 2) (as := [vI 94, vI ((tA σ) 1 2060)]) (st := []) 12 2 e_X12_newOne_4.2.2.2.2.2.2.1 (kCVof m_X12_findHere l_X12_192) rfl (by decide) km_0 (by decide) (by decide) rfl rfl (by show (0 : Nat) ≤ 8; decide) ?_
          refine Run.mono (P_X12_findHere q26) (fun r s e => ?_)
          obtain ⟨e1, e2⟩ := e
          refine R_eqs (st2 := [vI (tFi (tA σ) (94) (((tA σ) 1 2060)))]) (σ2 := (tA σ)) (by rw [e1]; rfl) e2 ?_
          refine R_iconst e_X12_newOne_4.2.2.2.2.2.2.2.1 ?_
          obtain ⟨q27, h⟩ := h
          refine R_icmp_eq 100 e_X12_newOne_4.2.2.2.2.2.2.2.2.1 (by decide) q27 (by decide) (fun q => ?_) (fun q => ?_)
          · replace h := h.1 q
            refine R_aload_n e_X12_newOne_5.2.2.2.1 0 rfl ?_
            refine R_getA 12 1 2 e_X12_newOne_5.2.2.2.2.1 f_X12_13 km_0 (fun _ _ => rfl) rm_0_1 (by decide) ?_
            refine R_bipush e_X12_newOne_5.2.2.2.2.2.1 (by decide) ?_
            refine R_iload_n e_X12_newOne_5.2.2.2.2.2.2.1 3 rfl ?_
            refine R_iadd e_X12_newOne_5.2.2.2.2.2.2.2.1 ?_
            refine R_aload_n e_X12_newOne_5.2.2.2.2.2.2.2.2.1 0 rfl ?_
            refine R_getA 12 0 1 e_X12_newOne_5.2.2.2.2.2.2.2.2.2 f_X12_7 km_0 (fun _ _ => rfl) rm_0_0 (by decide) ?_
            refine R_sipush e_X12_newOne_6.1 (by decide) ?_
            refine R_iload_n e_X12_newOne_6.2.1 1 rfl ?_
            refine R_iadd e_X12_newOne_6.2.2.1 ?_
            obtain ⟨q28, h⟩ := h
            refine R_iald 3598 e_X12_newOne_6.2.2.2.1 kma_1 q28 ?_
            refine R_iadd e_X12_newOne_6.2.2.2.2.1 ?_
            refine R_aload_n e_X12_newOne_6.2.2.2.2.2.1 0 rfl ?_
            obtain ⟨q31, h⟩ := h
            refine R_callV (mc := 0) (ms := 0) (mc' := 0) (ms' := 0) (M' := M_X12_nameHere) (d' := 1) (as := []) (st := [vI ((80 + l3) + ((tA σ) 1 (2056 + l1))), vA G 2]) 12 0 e_X12_newOne_6.2.2.2.2.2.2.1 (kCVof m_X12_nameHere l_X12_182) rfl (by decide) km_0 (by decide) (by decide) rfl rfl (by show (2 : Nat) ≤ 8; decide) ?_
            refine Run.mono (P_X12_nameHere q31) (fun r s e => ?_)
            obtain ⟨e1, e2⟩ := e
            refine R_eqs (st2 := [vL (tNm (tA σ)), vI ((80 + l3) + ((tA σ) 1 (2056 + l1))), vA G 2]) (σ2 := (tA σ)) (by rw [e1]; rfl) e2 ?_
            obtain ⟨q32, h⟩ := h
            refine R_last 120 WM_ok e_X12_newOne_6.2.2.2.2.2.2.2.1 kma_2 q32 ?_
            obtain ⟨m33, e34⟩ : ∃ z : Kmem, z = (kup (tA σ) 2 ((80 + l3) + ((tA σ) 1 (2056 + l1))) (tNm (tA σ))) := ⟨_, rfl⟩
            rw [← e34]
            replace h := h m33 e34
            refine R_aload_n e_X12_newOne_6.2.2.2.2.2.2.2.2.1 0 rfl ?_
            obtain ⟨q37, h⟩ := h
            refine R_callV (mc := 0) (ms := 0) (mc' := 0) (ms' := 0) (M' := M_X12_ahead) (d' := 1) (as := []) (st := []) 12 0 e_X12_newOne_6.2.2.2.2.2.2.2.2.2 (kCVof m_X12_ahead l_X12_169) rfl (by decide) km_0 (by decide) (by decide) rfl rfl (by show (0 : Nat) ≤ 8; decide) ?_
            refine Run.mono (P_X12_ahead q37) (fun r s e => ?_)
            obtain ⟨e1, e2⟩ := e
            refine R_eqs (st2 := []) (σ2 := (tA m33)) (by rfl) e2 ?_
            refine R_iconst e_X12_newOne_7.1 ?_
            exact R_zreturn e_X12_newOne_7.2 rfl (Or.inr rfl) h
          · replace h := h.2 q
            refine R_aload_n e_X12_newOne_4.2.2.2.2.2.2.2.2.2 0 rfl ?_
            refine R_iconst e_X12_newOne_5.1 ?_
            obtain ⟨q40, h⟩ := h
            refine R_callV (mc := 0) (ms := 0) (mc' := 0) (ms' := 0) (M' := M_X12_fails) (d' := 0) (as := [vI 3]) (st := []) 12 1 e_X12_newOne_5.2.1 (kCVof m_X12_fails l_X12_175) rfl (by decide) km_0 (by decide) (by decide) rfl rfl (by show (0 : Nat) ≤ 8; decide) ?_
            refine Run.mono (P_X12_fails q40) (fun r s e => ?_)
            obtain ⟨e1, e2⟩ := e
            refine R_eqs (st2 := [vI 0]) (σ2 := (tF (tA σ) (3))) (by rw [e1]; rfl) e2 ?_
            exact R_zreturn e_X12_newOne_5.2.2.1 rfl (Or.inl rfl) h
    · replace h := h.2 (kb_f q)
      refine R_aload_n e_X12_newOne_1.2.2.2.2.2.2.2.2.1 0 rfl ?_
      refine R_iconst e_X12_newOne_1.2.2.2.2.2.2.2.2.2 ?_
      obtain ⟨q43, h⟩ := h
      refine R_callV (mc := 0) (ms := 0) (mc' := 0) (ms' := 0) (M' := M_X12_fails) (d' := 0) (as := [vI 2]) (st := []) 12 1 e_X12_newOne_2.1 (kCVof m_X12_fails l_X12_175) rfl (by decide) km_0 (by decide) (by decide) rfl rfl (by show (0 : Nat) ≤ 8; decide) ?_
      refine Run.mono (P_X12_fails q43) (fun r s e => ?_)
      obtain ⟨e1, e2⟩ := e
      refine R_eqs (st2 := [vI 0]) (σ2 := (tF (tA σ) (2))) (by rw [e1]; rfl) e2 ?_
      exact R_zreturn e_X12_newOne_2.2.1 rfl (Or.inl rfl) h
  · replace h := h.2 q
    refine R_aload_n e_X12_newOne_0.2.2.2.2.2.2.2.2.1 0 rfl ?_
    refine R_bipush e_X12_newOne_0.2.2.2.2.2.2.2.2.2 (by decide) ?_
    obtain ⟨q46, h⟩ := h
    refine R_callV (mc := 0) (ms := 0) (mc' := 0) (ms' := 0) (M' := M_X12_fails) (d' := 0) (as := [vI 6]) (st := []) 12 1 e_X12_newOne_1.1 (kCVof m_X12_fails l_X12_175) rfl (by decide) km_0 (by decide) (by decide) rfl rfl (by show (0 : Nat) ≤ 8; decide) ?_
    refine Run.mono (P_X12_fails q46) (fun r s e => ?_)
    obtain ⟨e1, e2⟩ := e
    refine R_eqs (st2 := [vI 0]) (σ2 := (tF σ (6))) (by rw [e1]; rfl) e2 ?_
    exact R_zreturn e_X12_newOne_1.2.1 rfl (Or.inl rfl) h
/-! KiteLandModel.oldOne(III)Z -/
theorem e_X12_oldOne_0 : decode cX12_oldOne 0 = .ok (.aload_n 0, 1) ∧ decode cX12_oldOne 1 = .ok (.ldc 186, 2) ∧ decode cX12_oldOne 3 = .ok (.invokevirtual 188, 3) ∧ decode cX12_oldOne 6 = .ok (.ifCond .ne 9, 3) ∧ decode cX12_oldOne 9 = .ok (.aload_n 0, 1) ∧ decode cX12_oldOne 10 = .ok (.iconst 2, 1) ∧ decode cX12_oldOne 11 = .ok (.invokevirtual 175, 3) ∧ decode cX12_oldOne 14 = .ok (.ireturn, 1) ∧ decode cX12_oldOne 15 = .ok (.aload_n 0, 1) ∧ decode cX12_oldOne 16 = .ok (.getfield 7, 3) := by decide +kernel
theorem e_X12_oldOne_1 : decode cX12_oldOne 19 = .ok (.iload_n 3, 1) ∧ decode cX12_oldOne 20 = .ok (.aload_n 0, 1) ∧ decode cX12_oldOne 21 = .ok (.iload_n 1, 1) ∧ decode cX12_oldOne 22 = .ok (.iload_n 2, 1) ∧ decode cX12_oldOne 23 = .ok (.invokevirtual 192, 3) ∧ decode cX12_oldOne 26 = .ok (.iastore, 1) ∧ decode cX12_oldOne 27 = .ok (.aload_n 0, 1) ∧ decode cX12_oldOne 28 = .ok (.getfield 7, 3) ∧ decode cX12_oldOne 31 = .ok (.iload_n 3, 1) ∧ decode cX12_oldOne 32 = .ok (.iaload, 1) := by decide +kernel
theorem e_X12_oldOne_2 : decode cX12_oldOne 33 = .ok (.iconst (-1), 1) ∧ decode cX12_oldOne 34 = .ok (.if_icmp .ne 9, 3) ∧ decode cX12_oldOne 37 = .ok (.aload_n 0, 1) ∧ decode cX12_oldOne 38 = .ok (.iconst 3, 1) ∧ decode cX12_oldOne 39 = .ok (.invokevirtual 175, 3) ∧ decode cX12_oldOne 42 = .ok (.ireturn, 1) ∧ decode cX12_oldOne 43 = .ok (.aload_n 0, 1) ∧ decode cX12_oldOne 44 = .ok (.invokevirtual 169, 3) ∧ decode cX12_oldOne 47 = .ok (.iconst 1, 1) ∧ decode cX12_oldOne 48 = .ok (.ireturn, 1) := by decide +kernel
theorem S_X12_oldOne {G : Kg} {σ : Kmem} {Q : Int → Kmem → Prop} {l1 l2 l3 : Int}  (h : (tok σ) ∧ (((σ 0 12 = 2 ∧ σ 0 14 - σ 0 13 ≤ 8 ∧ tWi σ = -1) → ((tok σ ∧ σ 0 12 = 2 ∧ σ 0 14 - σ 0 13 ≤ 8) ∧ nmR σ ∧ ((0 : Int) ≤ l1 ∧ (0 : Int) ≤ l2 ∧ (l1 : Int) + l2 ≤ 120)) ∧ (0 ≤ l3 ∧ l3 < 3598) ∧ ∀ m8 : Kmem, m8 = (kup σ 1 l3 (tFi σ (l1) (l2))) → (0 ≤ l3 ∧ l3 < 3598) ∧ (rI (m8 1 l3)) ∧ ((m8 1 l3 ≠ -1 → (tx0 m8) ∧ Q 1 (tA m8)) ∧ (m8 1 l3 = -1 → (tok m8 ∧ (0 : Int) ≤ m8 0 18 ∧ (m8 0 18 : Int) ≤ 9) ∧ Q 0 (tF m8 (3))))) ∧ (¬ (σ 0 12 = 2 ∧ σ 0 14 - σ 0 13 ≤ 8 ∧ tWi σ = -1) → (tok σ ∧ (0 : Int) ≤ σ 0 18 ∧ (σ 0 18 : Int) ≤ 9) ∧ Q 0 (tF σ (2))))) : Run G WM M_X12_oldOne 6 0 0 [vA G 0, vI l1, vI l2, vI l3] σ Q := by
  refine Run.of (by decide +kernel) (by show (4 : Nat) ≤ 4; decide) ?_
  show Ex G WM M_X12_oldOne 6 0 0 0 [(0, vA G 0), (1, vI l1), (2, vI l2), (3, vI l3)] [] σ Q
  refine R_aload_n e_X12_oldOne_0.1 0 rfl ?_
  refine R_ldcS (i := 28) (-38) e_X12_oldOne_0.2.1 rfl rfl ?_
  obtain ⟨q3, h⟩ := h
  refine R_callV (mc := 0) (ms := 0) (mc' := 0) (ms' := 0) (M' := M_X12_isName) (d' := 5) (as := [vA G (-38)]) (st := []) 12 1 e_X12_oldOne_0.2.2.1 (kCVof m_X12_isName l_X12_188) rfl (by decide) km_0 (by decide) (by decide) rfl rfl (by show (0 : Nat) ≤ 8; decide) ?_
  refine Run.mono (P_X12_isName q3) (fun r s e => ?_)
  obtain ⟨e1, e2⟩ := e
  refine R_eqs (st2 := [vI (kb (σ 0 12 = 2 ∧ σ 0 14 - σ 0 13 ≤ 8 ∧ tWi σ = -1))]) (σ2 := σ) (by rw [e1]; rfl) e2 ?_
  refine R_if_ne 15 e_X12_oldOne_0.2.2.2.1 (by decide) (kb_r _) (fun q => ?_) (fun q => ?_)
  · replace h := h.1 (kb_t q)
    refine R_aload_n e_X12_oldOne_0.2.2.2.2.2.2.2.2.1 0 rfl ?_
    refine R_getA 12 0 1 e_X12_oldOne_0.2.2.2.2.2.2.2.2.2 f_X12_7 km_0 (fun _ _ => rfl) rm_0_0 (by decide) ?_
    refine R_iload_n e_X12_oldOne_1.1 3 rfl ?_
    refine R_aload_n e_X12_oldOne_1.2.1 0 rfl ?_
    refine R_iload_n e_X12_oldOne_1.2.2.1 1 rfl ?_
    refine R_iload_n e_X12_oldOne_1.2.2.2.1 2 rfl ?_
    obtain ⟨q6, h⟩ := h
    refine R_callV (mc := 0) (ms := 0) (mc' := 0) (ms' := 0) (M' := M_X12_findHere) (d' := 2) (as := [vI l1, vI l2]) (st := [vI l3, vA G 1]) 12 2 e_X12_oldOne_1.2.2.2.2.1 (kCVof m_X12_findHere l_X12_192) rfl (by decide) km_0 (by decide) (by decide) rfl rfl (by show (2 : Nat) ≤ 8; decide) ?_
    refine Run.mono (P_X12_findHere q6) (fun r s e => ?_)
    obtain ⟨e1, e2⟩ := e
    refine R_eqs (st2 := [vI (tFi σ (l1) (l2)), vI l3, vA G 1]) (σ2 := σ) (by rw [e1]; rfl) e2 ?_
    obtain ⟨q7, h⟩ := h
    refine R_iast 3598 WM_ok e_X12_oldOne_1.2.2.2.2.2.1 kma_1 q7 ?_
    obtain ⟨m8, e9⟩ : ∃ z : Kmem, z = (kup σ 1 l3 (tFi σ (l1) (l2))) := ⟨_, rfl⟩
    rw [← e9]
    replace h := h m8 e9
    refine R_aload_n e_X12_oldOne_1.2.2.2.2.2.2.1 0 rfl ?_
    refine R_getA 12 0 1 e_X12_oldOne_1.2.2.2.2.2.2.2.1 f_X12_7 km_0 (fun _ _ => rfl) rm_0_0 (by decide) ?_
    refine R_iload_n e_X12_oldOne_1.2.2.2.2.2.2.2.2.1 3 rfl ?_
    obtain ⟨q10, h⟩ := h
    refine R_iald 3598 e_X12_oldOne_1.2.2.2.2.2.2.2.2.2 kma_1 q10 ?_
    refine R_iconst e_X12_oldOne_2.1 ?_
    obtain ⟨q11, h⟩ := h
    refine R_icmp_ne 43 e_X12_oldOne_2.2.1 (by decide) q11 (by decide) (fun q => ?_) (fun q => ?_)
    · replace h := h.1 q
      refine R_aload_n e_X12_oldOne_2.2.2.2.2.2.2.1 0 rfl ?_
      obtain ⟨q14, h⟩ := h
      refine R_callV (mc := 0) (ms := 0) (mc' := 0) (ms' := 0) (M' := M_X12_ahead) (d' := 1) (as := []) (st := []) 12 0 e_X12_oldOne_2.2.2.2.2.2.2.2.1 (kCVof m_X12_ahead l_X12_169) rfl (by decide) km_0 (by decide) (by decide) rfl rfl (by show (0 : Nat) ≤ 8; decide) ?_
      refine Run.mono (P_X12_ahead q14) (fun r s e => ?_)
      obtain ⟨e1, e2⟩ := e
      refine R_eqs (st2 := []) (σ2 := (tA m8)) (by rfl) e2 ?_
      refine R_iconst e_X12_oldOne_2.2.2.2.2.2.2.2.2.1 ?_
      exact R_zreturn e_X12_oldOne_2.2.2.2.2.2.2.2.2.2 rfl (Or.inr rfl) h
    · replace h := h.2 q
      refine R_aload_n e_X12_oldOne_2.2.2.1 0 rfl ?_
      refine R_iconst e_X12_oldOne_2.2.2.2.1 ?_
      obtain ⟨q17, h⟩ := h
      refine R_callV (mc := 0) (ms := 0) (mc' := 0) (ms' := 0) (M' := M_X12_fails) (d' := 0) (as := [vI 3]) (st := []) 12 1 e_X12_oldOne_2.2.2.2.2.1 (kCVof m_X12_fails l_X12_175) rfl (by decide) km_0 (by decide) (by decide) rfl rfl (by show (0 : Nat) ≤ 8; decide) ?_
      refine Run.mono (P_X12_fails q17) (fun r s e => ?_)
      obtain ⟨e1, e2⟩ := e
      refine R_eqs (st2 := [vI 0]) (σ2 := (tF m8 (3))) (by rw [e1]; rfl) e2 ?_
      exact R_zreturn e_X12_oldOne_2.2.2.2.2.2.1 rfl (Or.inl rfl) h
  · replace h := h.2 (kb_f q)
    refine R_aload_n e_X12_oldOne_0.2.2.2.2.1 0 rfl ?_
    refine R_iconst e_X12_oldOne_0.2.2.2.2.2.1 ?_
    obtain ⟨q20, h⟩ := h
    refine R_callV (mc := 0) (ms := 0) (mc' := 0) (ms' := 0) (M' := M_X12_fails) (d' := 0) (as := [vI 2]) (st := []) 12 1 e_X12_oldOne_0.2.2.2.2.2.2.1 (kCVof m_X12_fails l_X12_175) rfl (by decide) km_0 (by decide) (by decide) rfl rfl (by show (0 : Nat) ≤ 8; decide) ?_
    refine Run.mono (P_X12_fails q20) (fun r s e => ?_)
    obtain ⟨e1, e2⟩ := e
    refine R_eqs (st2 := [vI 0]) (σ2 := (tF σ (2))) (by rw [e1]; rfl) e2 ?_
    exact R_zreturn e_X12_oldOne_0.2.2.2.2.2.2.2.1 rfl (Or.inl rfl) h
/-! KiteLandModel.fieldTo(I)Z -/
theorem e_X12_fieldTo_0 : decode cX12_fieldTo 0 = .ok (.aload_n 0, 1) ∧ decode cX12_fieldTo 1 = .ok (.ldc 186, 2) ∧ decode cX12_fieldTo 3 = .ok (.bipush 8, 2) ∧ decode cX12_fieldTo 5 = .ok (.invokevirtual 195, 3) ∧ decode cX12_fieldTo 8 = .ok (.ifCond .eq 47, 3) ∧ decode cX12_fieldTo 11 = .ok (.aload_n 0, 1) ∧ decode cX12_fieldTo 12 = .ok (.iload_n 1, 1) ∧ decode cX12_fieldTo 13 = .ok (.iconst 0, 1) ∧ decode cX12_fieldTo 14 = .ok (.aload_n 0, 1) ∧ decode cX12_fieldTo 15 = .ok (.getfield 7, 3) := by decide +kernel
theorem e_X12_fieldTo_1 : decode cX12_fieldTo 18 = .ok (.sipush 2056, 3) ∧ decode cX12_fieldTo 21 = .ok (.iaload, 1) ∧ decode cX12_fieldTo 22 = .ok (.iconst 1, 1) ∧ decode cX12_fieldTo 23 = .ok (.isub, 1) ∧ decode cX12_fieldTo 24 = .ok (.invokevirtual 199, 3) ∧ decode cX12_fieldTo 27 = .ok (.ifCond .eq 28, 3) ∧ decode cX12_fieldTo 30 = .ok (.aload_n 0, 1) ∧ decode cX12_fieldTo 31 = .ok (.iload_n 1, 1) ∧ decode cX12_fieldTo 32 = .ok (.iconst 1, 1) ∧ decode cX12_fieldTo 33 = .ok (.iadd, 1) := by decide +kernel
theorem e_X12_fieldTo_2 : decode cX12_fieldTo 34 = .ok (.iconst 0, 1) ∧ decode cX12_fieldTo 35 = .ok (.aload_n 0, 1) ∧ decode cX12_fieldTo 36 = .ok (.getfield 7, 3) ∧ decode cX12_fieldTo 39 = .ok (.sipush 2057, 3) ∧ decode cX12_fieldTo 42 = .ok (.iaload, 1) ∧ decode cX12_fieldTo 43 = .ok (.iconst 1, 1) ∧ decode cX12_fieldTo 44 = .ok (.isub, 1) ∧ decode cX12_fieldTo 45 = .ok (.invokevirtual 199, 3) ∧ decode cX12_fieldTo 48 = .ok (.ifCond .eq 7, 3) ∧ decode cX12_fieldTo 51 = .ok (.iconst 1, 1) := by decide +kernel
theorem e_X12_fieldTo_3 : decode cX12_fieldTo 52 = .ok (.goto 4, 3) ∧ decode cX12_fieldTo 55 = .ok (.iconst 0, 1) ∧ decode cX12_fieldTo 56 = .ok (.ireturn, 1) := by decide +kernel
theorem S_X12_fieldTo {G : Kg} {σ : Kmem} {Q : Int → Kmem → Prop} {l1 : Int}  (h : (tk1 σ ∧ rI (8)) ∧ ((¬ ((cWord (8) σ).1) → Q 0 ((cWord (8) σ).2)) ∧ (((cWord (8) σ).1) → (tk1 ((cWord (8) σ).2) ∧ ((0 : Int) ≤ l1 ∧ (l1 : Int) < 3598) ∧ rI (0) ∧ rI (((((cWord (8) σ).2) 1 2056) - 1))) ∧ ((¬ ((cNum (l1) (0) (((((cWord (8) σ).2) 1 2056) - 1)) ((cWord (8) σ).2)).1) → Q 0 ((cNum (l1) (0) (((((cWord (8) σ).2) 1 2056) - 1)) ((cWord (8) σ).2)).2)) ∧ (((cNum (l1) (0) (((((cWord (8) σ).2) 1 2056) - 1)) ((cWord (8) σ).2)).1) → (tk1 ((cNum (l1) (0) (((((cWord (8) σ).2) 1 2056) - 1)) ((cWord (8) σ).2)).2) ∧ ((0 : Int) ≤ (l1 + 1) ∧ ((l1 + 1) : Int) < 3598) ∧ rI (0) ∧ rI (((((cNum (l1) (0) (((((cWord (8) σ).2) 1 2056) - 1)) ((cWord (8) σ).2)).2) 1 2057) - 1))) ∧ ((¬ ((cNum ((l1 + 1)) (0) (((((cNum (l1) (0) (((((cWord (8) σ).2) 1 2056) - 1)) ((cWord (8) σ).2)).2) 1 2057) - 1)) ((cNum (l1) (0) (((((cWord (8) σ).2) 1 2056) - 1)) ((cWord (8) σ).2)).2)).1) → Q 0 ((cNum ((l1 + 1)) (0) (((((cNum (l1) (0) (((((cWord (8) σ).2) 1 2056) - 1)) ((cWord (8) σ).2)).2) 1 2057) - 1)) ((cNum (l1) (0) (((((cWord (8) σ).2) 1 2056) - 1)) ((cWord (8) σ).2)).2)).2)) ∧ (((cNum ((l1 + 1)) (0) (((((cNum (l1) (0) (((((cWord (8) σ).2) 1 2056) - 1)) ((cWord (8) σ).2)).2) 1 2057) - 1)) ((cNum (l1) (0) (((((cWord (8) σ).2) 1 2056) - 1)) ((cWord (8) σ).2)).2)).1) → Q 1 ((cNum ((l1 + 1)) (0) (((((cNum (l1) (0) (((((cWord (8) σ).2) 1 2056) - 1)) ((cWord (8) σ).2)).2) 1 2057) - 1)) ((cNum (l1) (0) (((((cWord (8) σ).2) 1 2056) - 1)) ((cWord (8) σ).2)).2)).2)))))))) : Run G WM M_X12_fieldTo 6 0 0 [vA G 0, vI l1] σ Q := by
  refine Run.of (by decide +kernel) (by show (2 : Nat) ≤ 2; decide) ?_
  show Ex G WM M_X12_fieldTo 6 0 0 0 [(0, vA G 0), (1, vI l1)] [] σ Q
  refine R_aload_n e_X12_fieldTo_0.1 0 rfl ?_
  refine R_ldcS (i := 28) (-38) e_X12_fieldTo_0.2.1 rfl rfl ?_
  refine R_bipush e_X12_fieldTo_0.2.2.1 (by decide) ?_
  obtain ⟨q3, h⟩ := h
  refine R_callV (mc := 0) (ms := 0) (mc' := 0) (ms' := 0) (M' := M_X12_wantWord) (d' := 5) (as := [vA G (-38), vI 8]) (st := []) 12 2 e_X12_fieldTo_0.2.2.2.1 (kCVof m_X12_wantWord l_X12_195) rfl (by decide) km_0 (by decide) (by decide) rfl rfl (by show (0 : Nat) ≤ 8; decide) ?_
  refine Run.mono (P_X12_wantWord q3) (fun r s e => ?_)
  obtain ⟨e1, e2⟩ := e
  refine R_eqs (st2 := [vI (kb ((cWord (8) σ).1))]) (σ2 := ((cWord (8) σ).2)) (by rw [e1]; rfl) e2 ?_
  refine R_if_eq 55 e_X12_fieldTo_0.2.2.2.2.1 (by decide) (kb_r _) (fun q => ?_) (fun q => ?_)
  · replace h := h.1 (kb_f q)
    refine R_iconst e_X12_fieldTo_3.2.1 ?_
    exact R_zreturn e_X12_fieldTo_3.2.2 rfl (Or.inl rfl) h
  · replace h := h.2 (kb_t q)
    refine R_aload_n e_X12_fieldTo_0.2.2.2.2.2.1 0 rfl ?_
    refine R_iload_n e_X12_fieldTo_0.2.2.2.2.2.2.1 1 rfl ?_
    refine R_iconst e_X12_fieldTo_0.2.2.2.2.2.2.2.1 ?_
    refine R_aload_n e_X12_fieldTo_0.2.2.2.2.2.2.2.2.1 0 rfl ?_
    refine R_getA 12 0 1 e_X12_fieldTo_0.2.2.2.2.2.2.2.2.2 f_X12_7 km_0 (fun _ _ => rfl) rm_0_0 (by decide) ?_
    refine R_sipush e_X12_fieldTo_1.1 (by decide) ?_
    refine R_iald 3598 e_X12_fieldTo_1.2.1 kma_1 (by decide) ?_
    refine R_iconst e_X12_fieldTo_1.2.2.1 ?_
    refine R_isub e_X12_fieldTo_1.2.2.2.1 ?_
    obtain ⟨q6, h⟩ := h
    refine R_callV (mc := 0) (ms := 0) (mc' := 0) (ms' := 0) (M' := M_X12_number) (d' := 2) (as := [vI l1, vI 0, vI ((((cWord (8) σ).2) 1 2056) - 1)]) (st := []) 12 3 e_X12_fieldTo_1.2.2.2.2.1 (kCVof m_X12_number l_X12_199) rfl (by decide) km_0 (by decide) (by decide) rfl rfl (by show (0 : Nat) ≤ 8; decide) ?_
    refine Run.mono (P_X12_number q6) (fun r s e => ?_)
    obtain ⟨e1, e2⟩ := e
    refine R_eqs (st2 := [vI (kb ((cNum (l1) (0) (((((cWord (8) σ).2) 1 2056) - 1)) ((cWord (8) σ).2)).1))]) (σ2 := ((cNum (l1) (0) (((((cWord (8) σ).2) 1 2056) - 1)) ((cWord (8) σ).2)).2)) (by rw [e1]; rfl) e2 ?_
    refine R_if_eq 55 e_X12_fieldTo_1.2.2.2.2.2.1 (by decide) (kb_r _) (fun q => ?_) (fun q => ?_)
    · replace h := h.1 (kb_f q)
      refine R_iconst e_X12_fieldTo_3.2.1 ?_
      exact R_zreturn e_X12_fieldTo_3.2.2 rfl (Or.inl rfl) h
    · replace h := h.2 (kb_t q)
      refine R_aload_n e_X12_fieldTo_1.2.2.2.2.2.2.1 0 rfl ?_
      refine R_iload_n e_X12_fieldTo_1.2.2.2.2.2.2.2.1 1 rfl ?_
      refine R_iconst e_X12_fieldTo_1.2.2.2.2.2.2.2.2.1 ?_
      refine R_iadd e_X12_fieldTo_1.2.2.2.2.2.2.2.2.2 ?_
      refine R_iconst e_X12_fieldTo_2.1 ?_
      refine R_aload_n e_X12_fieldTo_2.2.1 0 rfl ?_
      refine R_getA 12 0 1 e_X12_fieldTo_2.2.2.1 f_X12_7 km_0 (fun _ _ => rfl) rm_0_0 (by decide) ?_
      refine R_sipush e_X12_fieldTo_2.2.2.2.1 (by decide) ?_
      refine R_iald 3598 e_X12_fieldTo_2.2.2.2.2.1 kma_1 (by decide) ?_
      refine R_iconst e_X12_fieldTo_2.2.2.2.2.2.1 ?_
      refine R_isub e_X12_fieldTo_2.2.2.2.2.2.2.1 ?_
      obtain ⟨q9, h⟩ := h
      refine R_callV (mc := 0) (ms := 0) (mc' := 0) (ms' := 0) (M' := M_X12_number) (d' := 2) (as := [vI (l1 + 1), vI 0, vI ((((cNum (l1) (0) (((((cWord (8) σ).2) 1 2056) - 1)) ((cWord (8) σ).2)).2) 1 2057) - 1)]) (st := []) 12 3 e_X12_fieldTo_2.2.2.2.2.2.2.2.1 (kCVof m_X12_number l_X12_199) rfl (by decide) km_0 (by decide) (by decide) rfl rfl (by show (0 : Nat) ≤ 8; decide) ?_
      refine Run.mono (P_X12_number q9) (fun r s e => ?_)
      obtain ⟨e1, e2⟩ := e
      refine R_eqs (st2 := [vI (kb ((cNum ((l1 + 1)) (0) (((((cNum (l1) (0) (((((cWord (8) σ).2) 1 2056) - 1)) ((cWord (8) σ).2)).2) 1 2057) - 1)) ((cNum (l1) (0) (((((cWord (8) σ).2) 1 2056) - 1)) ((cWord (8) σ).2)).2)).1))]) (σ2 := ((cNum ((l1 + 1)) (0) (((((cNum (l1) (0) (((((cWord (8) σ).2) 1 2056) - 1)) ((cWord (8) σ).2)).2) 1 2057) - 1)) ((cNum (l1) (0) (((((cWord (8) σ).2) 1 2056) - 1)) ((cWord (8) σ).2)).2)).2)) (by rw [e1]; rfl) e2 ?_
      refine R_if_eq 55 e_X12_fieldTo_2.2.2.2.2.2.2.2.2.1 (by decide) (kb_r _) (fun q => ?_) (fun q => ?_)
      · replace h := h.1 (kb_f q)
        refine R_iconst e_X12_fieldTo_3.2.1 ?_
        exact R_zreturn e_X12_fieldTo_3.2.2 rfl (Or.inl rfl) h
      · replace h := h.2 (kb_t q)
        refine R_iconst e_X12_fieldTo_2.2.2.2.2.2.2.2.2.2 ?_
        refine R_goto 56 e_X12_fieldTo_3.1 (by decide) ?_
        exact R_zreturn e_X12_fieldTo_3.2.2 rfl (Or.inr rfl) h
/-! KiteLandModel.theLand()Z -/
theorem e_X12_theLand_0 : decode cX12_theLand 0 = .ok (.aload_n 0, 1) ∧ decode cX12_theLand 1 = .ok (.invokevirtual 169, 3) ∧ decode cX12_theLand 4 = .ok (.aload_n 0, 1) ∧ decode cX12_theLand 5 = .ok (.sipush 2056, 3) ∧ decode cX12_theLand 8 = .ok (.iconst 1, 1) ∧ decode cX12_theLand 9 = .ok (.bipush 9, 2) ∧ decode cX12_theLand 11 = .ok (.invokevirtual 199, 3) ∧ decode cX12_theLand 14 = .ok (.ifCond .eq 31, 3) ∧ decode cX12_theLand 17 = .ok (.aload_n 0, 1) ∧ decode cX12_theLand 18 = .ok (.ldc 186, 2) := by decide +kernel
theorem e_X12_theLand_1 : decode cX12_theLand 20 = .ok (.bipush 7, 2) ∧ decode cX12_theLand 22 = .ok (.invokevirtual 195, 3) ∧ decode cX12_theLand 25 = .ok (.ifCond .eq 20, 3) ∧ decode cX12_theLand 28 = .ok (.aload_n 0, 1) ∧ decode cX12_theLand 29 = .ok (.sipush 2057, 3) ∧ decode cX12_theLand 32 = .ok (.iconst 1, 1) ∧ decode cX12_theLand 33 = .ok (.bipush 7, 2) ∧ decode cX12_theLand 35 = .ok (.invokevirtual 199, 3) ∧ decode cX12_theLand 38 = .ok (.ifCond .eq 7, 3) ∧ decode cX12_theLand 41 = .ok (.iconst 1, 1) := by decide +kernel
theorem e_X12_theLand_2 : decode cX12_theLand 42 = .ok (.goto 4, 3) ∧ decode cX12_theLand 45 = .ok (.iconst 0, 1) ∧ decode cX12_theLand 46 = .ok (.ireturn, 1) := by decide +kernel
theorem S_X12_theLand {G : Kg} {σ : Kmem} {Q : Int → Kmem → Prop}  (h : (tx0 σ) ∧ (tk1 (tA σ) ∧ ((0 : Int) ≤ 2056 ∧ (2056 : Int) < 3598) ∧ rI (1) ∧ rI (9)) ∧ ((¬ ((cNum (2056) (1) (9) (tA σ)).1) → Q 0 ((cNum (2056) (1) (9) (tA σ)).2)) ∧ (((cNum (2056) (1) (9) (tA σ)).1) → (tk1 ((cNum (2056) (1) (9) (tA σ)).2) ∧ rI (7)) ∧ ((¬ ((cWord (7) ((cNum (2056) (1) (9) (tA σ)).2)).1) → Q 0 ((cWord (7) ((cNum (2056) (1) (9) (tA σ)).2)).2)) ∧ (((cWord (7) ((cNum (2056) (1) (9) (tA σ)).2)).1) → (tk1 ((cWord (7) ((cNum (2056) (1) (9) (tA σ)).2)).2) ∧ ((0 : Int) ≤ 2057 ∧ (2057 : Int) < 3598) ∧ rI (1) ∧ rI (7)) ∧ ((¬ ((cNum (2057) (1) (7) ((cWord (7) ((cNum (2056) (1) (9) (tA σ)).2)).2)).1) → Q 0 ((cNum (2057) (1) (7) ((cWord (7) ((cNum (2056) (1) (9) (tA σ)).2)).2)).2)) ∧ (((cNum (2057) (1) (7) ((cWord (7) ((cNum (2056) (1) (9) (tA σ)).2)).2)).1) → Q 1 ((cNum (2057) (1) (7) ((cWord (7) ((cNum (2056) (1) (9) (tA σ)).2)).2)).2)))))))) : Run G WM M_X12_theLand 6 0 0 [vA G 0] σ Q := by
  refine Run.of (by decide +kernel) (by show (1 : Nat) ≤ 1; decide) ?_
  show Ex G WM M_X12_theLand 6 0 0 0 [(0, vA G 0)] [] σ Q
  refine R_aload_n e_X12_theLand_0.1 0 rfl ?_
  obtain ⟨q3, h⟩ := h
  refine R_callV (mc := 0) (ms := 0) (mc' := 0) (ms' := 0) (M' := M_X12_ahead) (d' := 1) (as := []) (st := []) 12 0 e_X12_theLand_0.2.1 (kCVof m_X12_ahead l_X12_169) rfl (by decide) km_0 (by decide) (by decide) rfl rfl (by show (0 : Nat) ≤ 8; decide) ?_
  refine Run.mono (P_X12_ahead q3) (fun r s e => ?_)
  obtain ⟨e1, e2⟩ := e
  refine R_eqs (st2 := []) (σ2 := (tA σ)) (by rfl) e2 ?_
  refine R_aload_n e_X12_theLand_0.2.2.1 0 rfl ?_
  refine R_sipush e_X12_theLand_0.2.2.2.1 (by decide) ?_
  refine R_iconst e_X12_theLand_0.2.2.2.2.1 ?_
  refine R_bipush e_X12_theLand_0.2.2.2.2.2.1 (by decide) ?_
  obtain ⟨q6, h⟩ := h
  refine R_callV (mc := 0) (ms := 0) (mc' := 0) (ms' := 0) (M' := M_X12_number) (d' := 2) (as := [vI 2056, vI 1, vI 9]) (st := []) 12 3 e_X12_theLand_0.2.2.2.2.2.2.1 (kCVof m_X12_number l_X12_199) rfl (by decide) km_0 (by decide) (by decide) rfl rfl (by show (0 : Nat) ≤ 8; decide) ?_
  refine Run.mono (P_X12_number q6) (fun r s e => ?_)
  obtain ⟨e1, e2⟩ := e
  refine R_eqs (st2 := [vI (kb ((cNum (2056) (1) (9) (tA σ)).1))]) (σ2 := ((cNum (2056) (1) (9) (tA σ)).2)) (by rw [e1]; rfl) e2 ?_
  refine R_if_eq 45 e_X12_theLand_0.2.2.2.2.2.2.2.1 (by decide) (kb_r _) (fun q => ?_) (fun q => ?_)
  · replace h := h.1 (kb_f q)
    refine R_iconst e_X12_theLand_2.2.1 ?_
    exact R_zreturn e_X12_theLand_2.2.2 rfl (Or.inl rfl) h
  · replace h := h.2 (kb_t q)
    refine R_aload_n e_X12_theLand_0.2.2.2.2.2.2.2.2.1 0 rfl ?_
    refine R_ldcS (i := 28) (-38) e_X12_theLand_0.2.2.2.2.2.2.2.2.2 rfl rfl ?_
    refine R_bipush e_X12_theLand_1.1 (by decide) ?_
    obtain ⟨q9, h⟩ := h
    refine R_callV (mc := 0) (ms := 0) (mc' := 0) (ms' := 0) (M' := M_X12_wantWord) (d' := 5) (as := [vA G (-38), vI 7]) (st := []) 12 2 e_X12_theLand_1.2.1 (kCVof m_X12_wantWord l_X12_195) rfl (by decide) km_0 (by decide) (by decide) rfl rfl (by show (0 : Nat) ≤ 8; decide) ?_
    refine Run.mono (P_X12_wantWord q9) (fun r s e => ?_)
    obtain ⟨e1, e2⟩ := e
    refine R_eqs (st2 := [vI (kb ((cWord (7) ((cNum (2056) (1) (9) (tA σ)).2)).1))]) (σ2 := ((cWord (7) ((cNum (2056) (1) (9) (tA σ)).2)).2)) (by rw [e1]; rfl) e2 ?_
    refine R_if_eq 45 e_X12_theLand_1.2.2.1 (by decide) (kb_r _) (fun q => ?_) (fun q => ?_)
    · replace h := h.1 (kb_f q)
      refine R_iconst e_X12_theLand_2.2.1 ?_
      exact R_zreturn e_X12_theLand_2.2.2 rfl (Or.inl rfl) h
    · replace h := h.2 (kb_t q)
      refine R_aload_n e_X12_theLand_1.2.2.2.1 0 rfl ?_
      refine R_sipush e_X12_theLand_1.2.2.2.2.1 (by decide) ?_
      refine R_iconst e_X12_theLand_1.2.2.2.2.2.1 ?_
      refine R_bipush e_X12_theLand_1.2.2.2.2.2.2.1 (by decide) ?_
      obtain ⟨q12, h⟩ := h
      refine R_callV (mc := 0) (ms := 0) (mc' := 0) (ms' := 0) (M' := M_X12_number) (d' := 2) (as := [vI 2057, vI 1, vI 7]) (st := []) 12 3 e_X12_theLand_1.2.2.2.2.2.2.2.1 (kCVof m_X12_number l_X12_199) rfl (by decide) km_0 (by decide) (by decide) rfl rfl (by show (0 : Nat) ≤ 8; decide) ?_
      refine Run.mono (P_X12_number q12) (fun r s e => ?_)
      obtain ⟨e1, e2⟩ := e
      refine R_eqs (st2 := [vI (kb ((cNum (2057) (1) (7) ((cWord (7) ((cNum (2056) (1) (9) (tA σ)).2)).2)).1))]) (σ2 := ((cNum (2057) (1) (7) ((cWord (7) ((cNum (2056) (1) (9) (tA σ)).2)).2)).2)) (by rw [e1]; rfl) e2 ?_
      refine R_if_eq 45 e_X12_theLand_1.2.2.2.2.2.2.2.2.1 (by decide) (kb_r _) (fun q => ?_) (fun q => ?_)
      · replace h := h.1 (kb_f q)
        refine R_iconst e_X12_theLand_2.2.1 ?_
        exact R_zreturn e_X12_theLand_2.2.2 rfl (Or.inl rfl) h
      · replace h := h.2 (kb_t q)
        refine R_iconst e_X12_theLand_1.2.2.2.2.2.2.2.2.2 ?_
        refine R_goto 46 e_X12_theLand_2.1 (by decide) ?_
        exact R_zreturn e_X12_theLand_2.2.2 rfl (Or.inr rfl) h
