/-! KiteLandModel.aWind()Z -/
theorem e_X12_aWind_0 : decode cX12_aWind 0 = .ok (.sipush 2566, 3) ∧ decode cX12_aWind 3 = .ok (.istore_n 1, 1) ∧ decode cX12_aWind 4 = .ok (.aload_n 0, 1) ∧ decode cX12_aWind 5 = .ok (.invokevirtual 169, 3) ∧ decode cX12_aWind 8 = .ok (.aload_n 0, 1) ∧ decode cX12_aWind 9 = .ok (.iload_n 1, 1) ∧ decode cX12_aWind 10 = .ok (.iconst 0, 1) ∧ decode cX12_aWind 11 = .ok (.bipush 11, 2) ∧ decode cX12_aWind 13 = .ok (.invokevirtual 199, 3) ∧ decode cX12_aWind 16 = .ok (.ifCond .ne 5, 3) := by decide +kernel
theorem e_X12_aWind_1 : decode cX12_aWind 19 = .ok (.iconst 0, 1) ∧ decode cX12_aWind 20 = .ok (.ireturn, 1) ∧ decode cX12_aWind 21 = .ok (.sipush 2066, 3) ∧ decode cX12_aWind 24 = .ok (.iconst 2, 1) ∧ decode cX12_aWind 25 = .ok (.aload_n 0, 1) ∧ decode cX12_aWind 26 = .ok (.getfield 7, 3) ∧ decode cX12_aWind 29 = .ok (.iload_n 1, 1) ∧ decode cX12_aWind 30 = .ok (.iaload, 1) ∧ decode cX12_aWind 31 = .ok (.imul, 1) ∧ decode cX12_aWind 32 = .ok (.iadd, 1) := by decide +kernel
theorem e_X12_aWind_2 : decode cX12_aWind 33 = .ok (.istore_n 2, 1) ∧ decode cX12_aWind 34 = .ok (.aload_n 0, 1) ∧ decode cX12_aWind 35 = .ok (.iload_n 2, 1) ∧ decode cX12_aWind 36 = .ok (.iconst 0, 1) ∧ decode cX12_aWind 37 = .ok (.bipush 7, 2) ∧ decode cX12_aWind 39 = .ok (.invokevirtual 199, 3) ∧ decode cX12_aWind 42 = .ok (.ifCond .eq 19, 3) ∧ decode cX12_aWind 45 = .ok (.aload_n 0, 1) ∧ decode cX12_aWind 46 = .ok (.iload_n 2, 1) ∧ decode cX12_aWind 47 = .ok (.iconst 1, 1) := by decide +kernel
theorem e_X12_aWind_3 : decode cX12_aWind 48 = .ok (.iadd, 1) ∧ decode cX12_aWind 49 = .ok (.iconst 0, 1) ∧ decode cX12_aWind 50 = .ok (.iconst 3, 1) ∧ decode cX12_aWind 51 = .ok (.invokevirtual 199, 3) ∧ decode cX12_aWind 54 = .ok (.ifCond .eq 7, 3) ∧ decode cX12_aWind 57 = .ok (.iconst 1, 1) ∧ decode cX12_aWind 58 = .ok (.goto 4, 3) ∧ decode cX12_aWind 61 = .ok (.iconst 0, 1) ∧ decode cX12_aWind 62 = .ok (.ireturn, 1) := by decide +kernel
theorem S_X12_aWind {G : Kg} {σ : Kmem} {Q : Int → Kmem → Prop}  (h : (tx0 σ) ∧ (tk1 (tA σ) ∧ ((0 : Int) ≤ 2566 ∧ (2566 : Int) < 3598) ∧ rI (0) ∧ rI (11)) ∧ ((((cNum (2566) (0) (11) (tA σ)).1) → (tk1 ((cNum (2566) (0) (11) (tA σ)).2) ∧ ((0 : Int) ≤ (2066 + (2 * (((cNum (2566) (0) (11) (tA σ)).2) 1 2566))) ∧ ((2066 + (2 * (((cNum (2566) (0) (11) (tA σ)).2) 1 2566))) : Int) < 3598) ∧ rI (0) ∧ rI (7)) ∧ ((¬ ((cNum ((2066 + (2 * (((cNum (2566) (0) (11) (tA σ)).2) 1 2566)))) (0) (7) ((cNum (2566) (0) (11) (tA σ)).2)).1) → Q 0 ((cNum ((2066 + (2 * (((cNum (2566) (0) (11) (tA σ)).2) 1 2566)))) (0) (7) ((cNum (2566) (0) (11) (tA σ)).2)).2)) ∧ (((cNum ((2066 + (2 * (((cNum (2566) (0) (11) (tA σ)).2) 1 2566)))) (0) (7) ((cNum (2566) (0) (11) (tA σ)).2)).1) → (tk1 ((cNum ((2066 + (2 * (((cNum (2566) (0) (11) (tA σ)).2) 1 2566)))) (0) (7) ((cNum (2566) (0) (11) (tA σ)).2)).2) ∧ ((0 : Int) ≤ ((2066 + (2 * (((cNum (2566) (0) (11) (tA σ)).2) 1 2566))) + 1) ∧ (((2066 + (2 * (((cNum (2566) (0) (11) (tA σ)).2) 1 2566))) + 1) : Int) < 3598) ∧ rI (0) ∧ rI (3)) ∧ ((¬ ((cNum (((2066 + (2 * (((cNum (2566) (0) (11) (tA σ)).2) 1 2566))) + 1)) (0) (3) ((cNum ((2066 + (2 * (((cNum (2566) (0) (11) (tA σ)).2) 1 2566)))) (0) (7) ((cNum (2566) (0) (11) (tA σ)).2)).2)).1) → Q 0 ((cNum (((2066 + (2 * (((cNum (2566) (0) (11) (tA σ)).2) 1 2566))) + 1)) (0) (3) ((cNum ((2066 + (2 * (((cNum (2566) (0) (11) (tA σ)).2) 1 2566)))) (0) (7) ((cNum (2566) (0) (11) (tA σ)).2)).2)).2)) ∧ (((cNum (((2066 + (2 * (((cNum (2566) (0) (11) (tA σ)).2) 1 2566))) + 1)) (0) (3) ((cNum ((2066 + (2 * (((cNum (2566) (0) (11) (tA σ)).2) 1 2566)))) (0) (7) ((cNum (2566) (0) (11) (tA σ)).2)).2)).1) → Q 1 ((cNum (((2066 + (2 * (((cNum (2566) (0) (11) (tA σ)).2) 1 2566))) + 1)) (0) (3) ((cNum ((2066 + (2 * (((cNum (2566) (0) (11) (tA σ)).2) 1 2566)))) (0) (7) ((cNum (2566) (0) (11) (tA σ)).2)).2)).2)))))) ∧ (¬ ((cNum (2566) (0) (11) (tA σ)).1) → Q 0 ((cNum (2566) (0) (11) (tA σ)).2)))) : Run G WM M_X12_aWind 3 0 0 [vA G 0] σ Q := by
  refine Run.of (by decide +kernel) (by show (1 : Nat) ≤ 3; decide) ?_
  show Ex G WM M_X12_aWind 3 0 0 0 [(0, vA G 0)] [] σ Q
  refine R_sipush e_X12_aWind_0.1 (by decide) ?_
  refine R_istore_n (ls2 := [(1, vI 2566), (0, vA G 0)]) e_X12_aWind_0.2.1 (by decide) rfl ?_
  refine R_aload_n e_X12_aWind_0.2.2.1 1 rfl ?_
  obtain ⟨q3, h⟩ := h
  refine R_callV (mc := 0) (ms := 0) (mc' := 0) (ms' := 0) (M' := M_X12_ahead) (d' := 1) (as := []) (st := []) 12 0 e_X12_aWind_0.2.2.2.1 (kCVof m_X12_ahead l_X12_169) rfl (by decide) km_0 (by decide) (by decide) rfl rfl (by show (0 : Nat) ≤ 8; decide) ?_
  refine Run.mono (P_X12_ahead q3) (fun r s e => ?_)
  obtain ⟨e1, e2⟩ := e
  refine R_eqs (st2 := []) (σ2 := (tA σ)) (by rfl) e2 ?_
  refine R_aload_n e_X12_aWind_0.2.2.2.2.1 1 rfl ?_
  refine R_iload_n e_X12_aWind_0.2.2.2.2.2.1 0 rfl ?_
  refine R_iconst e_X12_aWind_0.2.2.2.2.2.2.1 ?_
  refine R_bipush e_X12_aWind_0.2.2.2.2.2.2.2.1 (by decide) ?_
  obtain ⟨q6, h⟩ := h
  refine R_callV (mc := 0) (ms := 0) (mc' := 0) (ms' := 0) (M' := M_X12_number) (d' := 2) (as := [vI 2566, vI 0, vI 11]) (st := []) 12 3 e_X12_aWind_0.2.2.2.2.2.2.2.2.1 (kCVof m_X12_number l_X12_199) rfl (by decide) km_0 (by decide) (by decide) rfl rfl (by show (0 : Nat) ≤ 8; decide) ?_
  refine Run.mono (P_X12_number q6) (fun r s e => ?_)
  obtain ⟨e1, e2⟩ := e
  refine R_eqs (st2 := [vI (kb ((cNum (2566) (0) (11) (tA σ)).1))]) (σ2 := ((cNum (2566) (0) (11) (tA σ)).2)) (by rw [e1]; rfl) e2 ?_
  refine R_if_ne 21 e_X12_aWind_0.2.2.2.2.2.2.2.2.2 (by decide) (kb_r _) (fun q => ?_) (fun q => ?_)
  · replace h := h.1 (kb_t q)
    refine R_sipush e_X12_aWind_1.2.2.1 (by decide) ?_
    refine R_iconst e_X12_aWind_1.2.2.2.1 ?_
    refine R_aload_n e_X12_aWind_1.2.2.2.2.1 1 rfl ?_
    refine R_getA 12 0 1 e_X12_aWind_1.2.2.2.2.2.1 f_X12_7 km_0 (fun _ _ => rfl) rm_0_0 (by decide) ?_
    refine R_iload_n e_X12_aWind_1.2.2.2.2.2.2.1 0 rfl ?_
    refine R_iald 3598 e_X12_aWind_1.2.2.2.2.2.2.2.1 kma_1 (by decide) ?_
    refine R_imul e_X12_aWind_1.2.2.2.2.2.2.2.2.1 ?_
    refine R_iadd e_X12_aWind_1.2.2.2.2.2.2.2.2.2 ?_
    refine R_istore_n (ls2 := [(2, vI (2066 + (2 * (((cNum (2566) (0) (11) (tA σ)).2) 1 2566)))), (1, vI 2566), (0, vA G 0)]) e_X12_aWind_2.1 (by decide) rfl ?_
    refine R_aload_n e_X12_aWind_2.2.1 2 rfl ?_
    refine R_iload_n e_X12_aWind_2.2.2.1 0 rfl ?_
    refine R_iconst e_X12_aWind_2.2.2.2.1 ?_
    refine R_bipush e_X12_aWind_2.2.2.2.2.1 (by decide) ?_
    obtain ⟨q9, h⟩ := h
    refine R_callV (mc := 0) (ms := 0) (mc' := 0) (ms' := 0) (M' := M_X12_number) (d' := 2) (as := [vI (2066 + (2 * (((cNum (2566) (0) (11) (tA σ)).2) 1 2566))), vI 0, vI 7]) (st := []) 12 3 e_X12_aWind_2.2.2.2.2.2.1 (kCVof m_X12_number l_X12_199) rfl (by decide) km_0 (by decide) (by decide) rfl rfl (by show (0 : Nat) ≤ 8; decide) ?_
    refine Run.mono (P_X12_number q9) (fun r s e => ?_)
    obtain ⟨e1, e2⟩ := e
    refine R_eqs (st2 := [vI (kb ((cNum ((2066 + (2 * (((cNum (2566) (0) (11) (tA σ)).2) 1 2566)))) (0) (7) ((cNum (2566) (0) (11) (tA σ)).2)).1))]) (σ2 := ((cNum ((2066 + (2 * (((cNum (2566) (0) (11) (tA σ)).2) 1 2566)))) (0) (7) ((cNum (2566) (0) (11) (tA σ)).2)).2)) (by rw [e1]; rfl) e2 ?_
    refine R_if_eq 61 e_X12_aWind_2.2.2.2.2.2.2.1 (by decide) (kb_r _) (fun q => ?_) (fun q => ?_)
    · replace h := h.1 (kb_f q)
      refine R_iconst e_X12_aWind_3.2.2.2.2.2.2.2.1 ?_
      exact R_zreturn e_X12_aWind_3.2.2.2.2.2.2.2.2 rfl (Or.inl rfl) h
    · replace h := h.2 (kb_t q)
      refine R_aload_n e_X12_aWind_2.2.2.2.2.2.2.2.1 2 rfl ?_
      refine R_iload_n e_X12_aWind_2.2.2.2.2.2.2.2.2.1 0 rfl ?_
      refine R_iconst e_X12_aWind_2.2.2.2.2.2.2.2.2.2 ?_
      refine R_iadd e_X12_aWind_3.1 ?_
      refine R_iconst e_X12_aWind_3.2.1 ?_
      refine R_iconst e_X12_aWind_3.2.2.1 ?_
      obtain ⟨q12, h⟩ := h
      refine R_callV (mc := 0) (ms := 0) (mc' := 0) (ms' := 0) (M' := M_X12_number) (d' := 2) (as := [vI ((2066 + (2 * (((cNum (2566) (0) (11) (tA σ)).2) 1 2566))) + 1), vI 0, vI 3]) (st := []) 12 3 e_X12_aWind_3.2.2.2.1 (kCVof m_X12_number l_X12_199) rfl (by decide) km_0 (by decide) (by decide) rfl rfl (by show (0 : Nat) ≤ 8; decide) ?_
      refine Run.mono (P_X12_number q12) (fun r s e => ?_)
      obtain ⟨e1, e2⟩ := e
      refine R_eqs (st2 := [vI (kb ((cNum (((2066 + (2 * (((cNum (2566) (0) (11) (tA σ)).2) 1 2566))) + 1)) (0) (3) ((cNum ((2066 + (2 * (((cNum (2566) (0) (11) (tA σ)).2) 1 2566)))) (0) (7) ((cNum (2566) (0) (11) (tA σ)).2)).2)).1))]) (σ2 := ((cNum (((2066 + (2 * (((cNum (2566) (0) (11) (tA σ)).2) 1 2566))) + 1)) (0) (3) ((cNum ((2066 + (2 * (((cNum (2566) (0) (11) (tA σ)).2) 1 2566)))) (0) (7) ((cNum (2566) (0) (11) (tA σ)).2)).2)).2)) (by rw [e1]; rfl) e2 ?_
      refine R_if_eq 61 e_X12_aWind_3.2.2.2.2.1 (by decide) (kb_r _) (fun q => ?_) (fun q => ?_)
      · replace h := h.1 (kb_f q)
        refine R_iconst e_X12_aWind_3.2.2.2.2.2.2.2.1 ?_
        exact R_zreturn e_X12_aWind_3.2.2.2.2.2.2.2.2 rfl (Or.inl rfl) h
      · replace h := h.2 (kb_t q)
        refine R_iconst e_X12_aWind_3.2.2.2.2.2.1 ?_
        refine R_goto 62 e_X12_aWind_3.2.2.2.2.2.2.1 (by decide) ?_
        exact R_zreturn e_X12_aWind_3.2.2.2.2.2.2.2.2 rfl (Or.inr rfl) h
  · replace h := h.2 (kb_f q)
    refine R_iconst e_X12_aWind_1.1 ?_
    exact R_zreturn e_X12_aWind_1.2.1 rfl (Or.inl rfl) h
/-! KiteLandModel.aKite()Z -/
theorem e_X12_aKite_0 : decode cX12_aKite 0 = .ok (.sipush 2090, 3) ∧ decode cX12_aKite 3 = .ok (.bipush 9, 2) ∧ decode cX12_aKite 5 = .ok (.aload_n 0, 1) ∧ decode cX12_aKite 6 = .ok (.getfield 7, 3) ∧ decode cX12_aKite 9 = .ok (.sipush 2058, 3) ∧ decode cX12_aKite 12 = .ok (.iaload, 1) ∧ decode cX12_aKite 13 = .ok (.imul, 1) ∧ decode cX12_aKite 14 = .ok (.iadd, 1) ∧ decode cX12_aKite 15 = .ok (.istore_n 1, 1) ∧ decode cX12_aKite 16 = .ok (.aload_n 0, 1) := by decide +kernel
theorem e_X12_aKite_1 : decode cX12_aKite 17 = .ok (.iconst 2, 1) ∧ decode cX12_aKite 18 = .ok (.bipush 6, 2) ∧ decode cX12_aKite 20 = .ok (.iconst 0, 1) ∧ decode cX12_aKite 21 = .ok (.invokevirtual 203, 3) ∧ decode cX12_aKite 24 = .ok (.ifCond .eq 11, 3) ∧ decode cX12_aKite 27 = .ok (.aload_n 0, 1) ∧ decode cX12_aKite 28 = .ok (.iload_n 1, 1) ∧ decode cX12_aKite 29 = .ok (.invokevirtual 206, 3) ∧ decode cX12_aKite 32 = .ok (.ifCond .ne 5, 3) ∧ decode cX12_aKite 35 = .ok (.iconst 0, 1) := by decide +kernel
theorem e_X12_aKite_2 : decode cX12_aKite 36 = .ok (.ireturn, 1) ∧ decode cX12_aKite 37 = .ok (.aload_n 0, 1) ∧ decode cX12_aKite 38 = .ok (.getfield 7, 3) ∧ decode cX12_aKite 41 = .ok (.iload_n 1, 1) ∧ decode cX12_aKite 42 = .ok (.iconst 2, 1) ∧ decode cX12_aKite 43 = .ok (.iadd, 1) ∧ decode cX12_aKite 44 = .ok (.iconst 1, 1) ∧ decode cX12_aKite 45 = .ok (.iastore, 1) ∧ decode cX12_aKite 46 = .ok (.aload_n 0, 1) ∧ decode cX12_aKite 47 = .ok (.getfield 7, 3) := by decide +kernel
theorem e_X12_aKite_3 : decode cX12_aKite 50 = .ok (.iload_n 1, 1) ∧ decode cX12_aKite 51 = .ok (.iconst 3, 1) ∧ decode cX12_aKite 52 = .ok (.iadd, 1) ∧ decode cX12_aKite 53 = .ok (.iconst 3, 1) ∧ decode cX12_aKite 54 = .ok (.iastore, 1) ∧ decode cX12_aKite 55 = .ok (.aload_n 0, 1) ∧ decode cX12_aKite 56 = .ok (.getfield 7, 3) ∧ decode cX12_aKite 59 = .ok (.iload_n 1, 1) ∧ decode cX12_aKite 60 = .ok (.iconst 4, 1) ∧ decode cX12_aKite 61 = .ok (.iadd, 1) := by decide +kernel
theorem e_X12_aKite_4 : decode cX12_aKite 62 = .ok (.iconst 1, 1) ∧ decode cX12_aKite 63 = .ok (.iastore, 1) ∧ decode cX12_aKite 64 = .ok (.aload_n 0, 1) ∧ decode cX12_aKite 65 = .ok (.bipush 9, 2) ∧ decode cX12_aKite 67 = .ok (.invokevirtual 209, 3) ∧ decode cX12_aKite 70 = .ok (.ifCond .eq 15, 3) ∧ decode cX12_aKite 73 = .ok (.aload_n 0, 1) ∧ decode cX12_aKite 74 = .ok (.iload_n 1, 1) ∧ decode cX12_aKite 75 = .ok (.iconst 2, 1) ∧ decode cX12_aKite 76 = .ok (.iadd, 1) := by decide +kernel
theorem e_X12_aKite_5 : decode cX12_aKite 77 = .ok (.iconst 0, 1) ∧ decode cX12_aKite 78 = .ok (.iconst 2, 1) ∧ decode cX12_aKite 79 = .ok (.invokevirtual 199, 3) ∧ decode cX12_aKite 82 = .ok (.ifCond .eq 69, 3) ∧ decode cX12_aKite 85 = .ok (.aload_n 0, 1) ∧ decode cX12_aKite 86 = .ok (.bipush 10, 2) ∧ decode cX12_aKite 88 = .ok (.invokevirtual 209, 3) ∧ decode cX12_aKite 91 = .ok (.ifCond .eq 16, 3) ∧ decode cX12_aKite 94 = .ok (.aload_n 0, 1) ∧ decode cX12_aKite 95 = .ok (.iload_n 1, 1) := by decide +kernel
theorem e_X12_aKite_6 : decode cX12_aKite 96 = .ok (.iconst 3, 1) ∧ decode cX12_aKite 97 = .ok (.iadd, 1) ∧ decode cX12_aKite 98 = .ok (.iconst 0, 1) ∧ decode cX12_aKite 99 = .ok (.bipush 9, 2) ∧ decode cX12_aKite 101 = .ok (.invokevirtual 199, 3) ∧ decode cX12_aKite 104 = .ok (.ifCond .eq 47, 3) ∧ decode cX12_aKite 107 = .ok (.aload_n 0, 1) ∧ decode cX12_aKite 108 = .ok (.bipush 11, 2) ∧ decode cX12_aKite 110 = .ok (.invokevirtual 209, 3) ∧ decode cX12_aKite 113 = .ok (.ifCond .eq 15, 3) := by decide +kernel
theorem e_X12_aKite_7 : decode cX12_aKite 116 = .ok (.aload_n 0, 1) ∧ decode cX12_aKite 117 = .ok (.iload_n 1, 1) ∧ decode cX12_aKite 118 = .ok (.iconst 4, 1) ∧ decode cX12_aKite 119 = .ok (.iadd, 1) ∧ decode cX12_aKite 120 = .ok (.iconst 0, 1) ∧ decode cX12_aKite 121 = .ok (.iconst 3, 1) ∧ decode cX12_aKite 122 = .ok (.invokevirtual 199, 3) ∧ decode cX12_aKite 125 = .ok (.ifCond .eq 26, 3) ∧ decode cX12_aKite 128 = .ok (.aload_n 0, 1) ∧ decode cX12_aKite 129 = .ok (.bipush 12, 2) := by decide +kernel
theorem e_X12_aKite_8 : decode cX12_aKite 131 = .ok (.invokevirtual 209, 3) ∧ decode cX12_aKite 134 = .ok (.ifCond .eq 19, 3) ∧ decode cX12_aKite 137 = .ok (.aload_n 0, 1) ∧ decode cX12_aKite 138 = .ok (.iload_n 1, 1) ∧ decode cX12_aKite 139 = .ok (.bipush 7, 2) ∧ decode cX12_aKite 141 = .ok (.iadd, 1) ∧ decode cX12_aKite 142 = .ok (.iconst 0, 1) ∧ decode cX12_aKite 143 = .ok (.bipush 7, 2) ∧ decode cX12_aKite 145 = .ok (.invokevirtual 199, 3) ∧ decode cX12_aKite 148 = .ok (.ifCond .ne 5, 3) := by decide +kernel
theorem e_X12_aKite_9 : decode cX12_aKite 151 = .ok (.iconst 0, 1) ∧ decode cX12_aKite 152 = .ok (.ireturn, 1) ∧ decode cX12_aKite 153 = .ok (.aload_n 0, 1) ∧ decode cX12_aKite 154 = .ok (.getfield 7, 3) ∧ decode cX12_aKite 157 = .ok (.sipush 2058, 3) ∧ decode cX12_aKite 160 = .ok (.dup2, 1) ∧ decode cX12_aKite 161 = .ok (.iaload, 1) ∧ decode cX12_aKite 162 = .ok (.iconst 1, 1) ∧ decode cX12_aKite 163 = .ok (.iadd, 1) ∧ decode cX12_aKite 164 = .ok (.iastore, 1) := by decide +kernel
theorem e_X12_aKite_10 : decode cX12_aKite 165 = .ok (.iconst 1, 1) ∧ decode cX12_aKite 166 = .ok (.ireturn, 1) := by decide +kernel
abbrev E_X12_aKite_85 (G : Kg) (l1 : Int) (σ : Kmem) (Q : Int → Kmem → Prop) : Prop := Ex G WM M_X12_aKite 7 0 0 85 [(0, vA G 0), (1, vI l1)] [] σ Q
abbrev E_X12_aKite_128 (G : Kg) (l1 : Int) (σ : Kmem) (Q : Int → Kmem → Prop) : Prop := Ex G WM M_X12_aKite 7 0 0 128 [(0, vA G 0), (1, vI l1)] [] σ Q
theorem S_X12_aKite {G : Kg} {σ : Kmem} {Q : Int → Kmem → Prop}  (h : (tk2 σ ∧ pNew (2) (6) (0)) ∧ ((¬ ((cNew (2) (6) (0) σ).1) → Q 0 ((cNew (2) (6) (0) σ).2)) ∧ (((cNew (2) (6) (0) σ).1) → (tk2 ((cNew (2) (6) (0) σ).2) ∧ (2090 : Int) ≤ (2090 + (9 * (σ 1 2058))) ∧ ((2090 + (9 * (σ 1 2058))) : Int) < 2500) ∧ ((((cFld ((2090 + (9 * (σ 1 2058)))) ((cNew (2) (6) (0) σ).2)).1) → (0 ≤ (2090 + (9 * (σ 1 2058))) + 2 ∧ (2090 + (9 * (σ 1 2058))) + 2 < 3598) ∧ ∀ m8 : Kmem, m8 = (kup ((cFld ((2090 + (9 * (σ 1 2058)))) ((cNew (2) (6) (0) σ).2)).2) 1 ((2090 + (9 * (σ 1 2058))) + 2) 1) → (0 ≤ (2090 + (9 * (σ 1 2058))) + 3 ∧ (2090 + (9 * (σ 1 2058))) + 3 < 3598) ∧ ∀ m11 : Kmem, m11 = (kup m8 1 ((2090 + (9 * (σ 1 2058))) + 3) 3) → (0 ≤ (2090 + (9 * (σ 1 2058))) + 4 ∧ (2090 + (9 * (σ 1 2058))) + 4 < 3598) ∧ ∀ m14 : Kmem, m14 = (kup m11 1 ((2090 + (9 * (σ 1 2058))) + 4) 1) → (tk1 m14 ∧ rI (9)) ∧ ((¬ ((cIs (9) m14).1) → E_X12_aKite_85 G (2090 + (9 * (σ 1 2058))) ((cIs (9) m14).2) Q) ∧ (((cIs (9) m14).1) → (tk1 ((cIs (9) m14).2) ∧ ((0 : Int) ≤ ((2090 + (9 * (σ 1 2058))) + 2) ∧ (((2090 + (9 * (σ 1 2058))) + 2) : Int) < 3598) ∧ rI (0) ∧ rI (2)) ∧ ((¬ ((cNum (((2090 + (9 * (σ 1 2058))) + 2)) (0) (2) ((cIs (9) m14).2)).1) → Q 0 ((cNum (((2090 + (9 * (σ 1 2058))) + 2)) (0) (2) ((cIs (9) m14).2)).2)) ∧ (((cNum (((2090 + (9 * (σ 1 2058))) + 2)) (0) (2) ((cIs (9) m14).2)).1) → E_X12_aKite_85 G (2090 + (9 * (σ 1 2058))) ((cNum (((2090 + (9 * (σ 1 2058))) + 2)) (0) (2) ((cIs (9) m14).2)).2) Q))))) ∧ (¬ ((cFld ((2090 + (9 * (σ 1 2058)))) ((cNew (2) (6) (0) σ).2)).1) → Q 0 ((cFld ((2090 + (9 * (σ 1 2058)))) ((cNew (2) (6) (0) σ).2)).2)))))) : Run G WM M_X12_aKite 7 0 0 [vA G 0] σ Q := by
  refine Run.of (by decide +kernel) (by show (1 : Nat) ≤ 2; decide) ?_
  show Ex G WM M_X12_aKite 7 0 0 0 [(0, vA G 0)] [] σ Q
  refine R_sipush e_X12_aKite_0.1 (by decide) ?_
  refine R_bipush e_X12_aKite_0.2.1 (by decide) ?_
  refine R_aload_n e_X12_aKite_0.2.2.1 0 rfl ?_
  refine R_getA 12 0 1 e_X12_aKite_0.2.2.2.1 f_X12_7 km_0 (fun _ _ => rfl) rm_0_0 (by decide) ?_
  refine R_sipush e_X12_aKite_0.2.2.2.2.1 (by decide) ?_
  refine R_iald 3598 e_X12_aKite_0.2.2.2.2.2.1 kma_1 (by decide) ?_
  refine R_imul e_X12_aKite_0.2.2.2.2.2.2.1 ?_
  refine R_iadd e_X12_aKite_0.2.2.2.2.2.2.2.1 ?_
  refine R_istore_n (ls2 := [(1, vI (2090 + (9 * (σ 1 2058)))), (0, vA G 0)]) e_X12_aKite_0.2.2.2.2.2.2.2.2.1 (by decide) rfl ?_
  refine R_aload_n e_X12_aKite_0.2.2.2.2.2.2.2.2.2 1 rfl ?_
  refine R_iconst e_X12_aKite_1.1 ?_
  refine R_bipush e_X12_aKite_1.2.1 (by decide) ?_
  refine R_iconst e_X12_aKite_1.2.2.1 ?_
  obtain ⟨q3, h⟩ := h
  refine R_callV (mc := 0) (ms := 0) (mc' := 0) (ms' := 0) (M' := M_X12_newOne) (d' := 6) (as := [vI 2, vI 6, vI 0]) (st := []) 12 3 e_X12_aKite_1.2.2.2.1 (kCVof m_X12_newOne l_X12_203) rfl (by decide) km_0 (by decide) (by decide) rfl rfl (by show (0 : Nat) ≤ 8; decide) ?_
  refine Run.mono (P_X12_newOne q3) (fun r s e => ?_)
  obtain ⟨e1, e2⟩ := e
  refine R_eqs (st2 := [vI (kb ((cNew (2) (6) (0) σ).1))]) (σ2 := ((cNew (2) (6) (0) σ).2)) (by rw [e1]; rfl) e2 ?_
  refine R_if_eq 35 e_X12_aKite_1.2.2.2.2.1 (by decide) (kb_r _) (fun q => ?_) (fun q => ?_)
  · replace h := h.1 (kb_f q)
    refine R_iconst e_X12_aKite_1.2.2.2.2.2.2.2.2.2 ?_
    exact R_zreturn e_X12_aKite_2.1 rfl (Or.inl rfl) h
  · replace h := h.2 (kb_t q)
    refine R_aload_n e_X12_aKite_1.2.2.2.2.2.1 1 rfl ?_
    refine R_iload_n e_X12_aKite_1.2.2.2.2.2.2.1 0 rfl ?_
    obtain ⟨q6, h⟩ := h
    refine R_callV (mc := 0) (ms := 0) (mc' := 0) (ms' := 0) (M' := M_X12_fieldTo) (d' := 6) (as := [vI (2090 + (9 * (σ 1 2058)))]) (st := []) 12 1 e_X12_aKite_1.2.2.2.2.2.2.2.1 (kCVof m_X12_fieldTo l_X12_206) rfl (by decide) km_0 (by decide) (by decide) rfl rfl (by show (0 : Nat) ≤ 8; decide) ?_
    refine Run.mono (P_X12_fieldTo q6) (fun r s e => ?_)
    obtain ⟨e1, e2⟩ := e
    refine R_eqs (st2 := [vI (kb ((cFld ((2090 + (9 * (σ 1 2058)))) ((cNew (2) (6) (0) σ).2)).1))]) (σ2 := ((cFld ((2090 + (9 * (σ 1 2058)))) ((cNew (2) (6) (0) σ).2)).2)) (by rw [e1]; rfl) e2 ?_
    refine R_if_ne 37 e_X12_aKite_1.2.2.2.2.2.2.2.2.1 (by decide) (kb_r _) (fun q => ?_) (fun q => ?_)
    · replace h := h.1 (kb_t q)
      refine R_aload_n e_X12_aKite_2.2.1 1 rfl ?_
      refine R_getA 12 0 1 e_X12_aKite_2.2.2.1 f_X12_7 km_0 (fun _ _ => rfl) rm_0_0 (by decide) ?_
      refine R_iload_n e_X12_aKite_2.2.2.2.1 0 rfl ?_
      refine R_iconst e_X12_aKite_2.2.2.2.2.1 ?_
      refine R_iadd e_X12_aKite_2.2.2.2.2.2.1 ?_
      refine R_iconst e_X12_aKite_2.2.2.2.2.2.2.1 ?_
      obtain ⟨q7, h⟩ := h
      refine R_iast 3598 WM_ok e_X12_aKite_2.2.2.2.2.2.2.2.1 kma_1 q7 ?_
      obtain ⟨m8, e9⟩ : ∃ z : Kmem, z = (kup ((cFld ((2090 + (9 * (σ 1 2058)))) ((cNew (2) (6) (0) σ).2)).2) 1 ((2090 + (9 * (σ 1 2058))) + 2) 1) := ⟨_, rfl⟩
      rw [← e9]
      replace h := h m8 e9
      refine R_aload_n e_X12_aKite_2.2.2.2.2.2.2.2.2.1 1 rfl ?_
      refine R_getA 12 0 1 e_X12_aKite_2.2.2.2.2.2.2.2.2.2 f_X12_7 km_0 (fun _ _ => rfl) rm_0_0 (by decide) ?_
      refine R_iload_n e_X12_aKite_3.1 0 rfl ?_
      refine R_iconst e_X12_aKite_3.2.1 ?_
      refine R_iadd e_X12_aKite_3.2.2.1 ?_
      refine R_iconst e_X12_aKite_3.2.2.2.1 ?_
      obtain ⟨q10, h⟩ := h
      refine R_iast 3598 WM_ok e_X12_aKite_3.2.2.2.2.1 kma_1 q10 ?_
      obtain ⟨m11, e12⟩ : ∃ z : Kmem, z = (kup m8 1 ((2090 + (9 * (σ 1 2058))) + 3) 3) := ⟨_, rfl⟩
      rw [← e12]
      replace h := h m11 e12
      refine R_aload_n e_X12_aKite_3.2.2.2.2.2.1 1 rfl ?_
      refine R_getA 12 0 1 e_X12_aKite_3.2.2.2.2.2.2.1 f_X12_7 km_0 (fun _ _ => rfl) rm_0_0 (by decide) ?_
      refine R_iload_n e_X12_aKite_3.2.2.2.2.2.2.2.1 0 rfl ?_
      refine R_iconst e_X12_aKite_3.2.2.2.2.2.2.2.2.1 ?_
      refine R_iadd e_X12_aKite_3.2.2.2.2.2.2.2.2.2 ?_
      refine R_iconst e_X12_aKite_4.1 ?_
      obtain ⟨q13, h⟩ := h
      refine R_iast 3598 WM_ok e_X12_aKite_4.2.1 kma_1 q13 ?_
      obtain ⟨m14, e15⟩ : ∃ z : Kmem, z = (kup m11 1 ((2090 + (9 * (σ 1 2058))) + 4) 1) := ⟨_, rfl⟩
      rw [← e15]
      replace h := h m14 e15
      refine R_aload_n e_X12_aKite_4.2.2.1 1 rfl ?_
      refine R_bipush e_X12_aKite_4.2.2.2.1 (by decide) ?_
      obtain ⟨q18, h⟩ := h
      refine R_callV (mc := 0) (ms := 0) (mc' := 0) (ms' := 0) (M' := M_X12_isThere) (d' := 5) (as := [vI 9]) (st := []) 12 1 e_X12_aKite_4.2.2.2.2.1 (kCVof m_X12_isThere l_X12_209) rfl (by decide) km_0 (by decide) (by decide) rfl rfl (by show (0 : Nat) ≤ 8; decide) ?_
      refine Run.mono (P_X12_isThere q18) (fun r s e => ?_)
      obtain ⟨e1, e2⟩ := e
      refine R_eqs (st2 := [vI (kb ((cIs (9) m14).1))]) (σ2 := ((cIs (9) m14).2)) (by rw [e1]; rfl) e2 ?_
      refine R_if_eq 85 e_X12_aKite_4.2.2.2.2.2.1 (by decide) (kb_r _) (fun q => ?_) (fun q => ?_)
      · replace h := h.1 (kb_f q)
        refine R_ls (ls2 := [(0, vA G 0), (1, vI (2090 + (9 * (σ 1 2058))))]) [1, 0] rfl ?_
        exact h
      · replace h := h.2 (kb_t q)
        refine R_aload_n e_X12_aKite_4.2.2.2.2.2.2.1 1 rfl ?_
        refine R_iload_n e_X12_aKite_4.2.2.2.2.2.2.2.1 0 rfl ?_
        refine R_iconst e_X12_aKite_4.2.2.2.2.2.2.2.2.1 ?_
        refine R_iadd e_X12_aKite_4.2.2.2.2.2.2.2.2.2 ?_
        refine R_iconst e_X12_aKite_5.1 ?_
        refine R_iconst e_X12_aKite_5.2.1 ?_
        obtain ⟨q21, h⟩ := h
        refine R_callV (mc := 0) (ms := 0) (mc' := 0) (ms' := 0) (M' := M_X12_number) (d' := 2) (as := [vI ((2090 + (9 * (σ 1 2058))) + 2), vI 0, vI 2]) (st := []) 12 3 e_X12_aKite_5.2.2.1 (kCVof m_X12_number l_X12_199) rfl (by decide) km_0 (by decide) (by decide) rfl rfl (by show (0 : Nat) ≤ 8; decide) ?_
        refine Run.mono (P_X12_number q21) (fun r s e => ?_)
        obtain ⟨e1, e2⟩ := e
        refine R_eqs (st2 := [vI (kb ((cNum (((2090 + (9 * (σ 1 2058))) + 2)) (0) (2) ((cIs (9) m14).2)).1))]) (σ2 := ((cNum (((2090 + (9 * (σ 1 2058))) + 2)) (0) (2) ((cIs (9) m14).2)).2)) (by rw [e1]; rfl) e2 ?_
        refine R_if_eq 151 e_X12_aKite_5.2.2.2.1 (by decide) (kb_r _) (fun q => ?_) (fun q => ?_)
        · replace h := h.1 (kb_f q)
          refine R_iconst e_X12_aKite_9.1 ?_
          exact R_zreturn e_X12_aKite_9.2.1 rfl (Or.inl rfl) h
        · replace h := h.2 (kb_t q)
          refine R_ls (ls2 := [(0, vA G 0), (1, vI (2090 + (9 * (σ 1 2058))))]) [1, 0] rfl ?_
          exact h
    · replace h := h.2 (kb_f q)
      refine R_iconst e_X12_aKite_1.2.2.2.2.2.2.2.2.2 ?_
      exact R_zreturn e_X12_aKite_2.1 rfl (Or.inl rfl) h
theorem S_X12_aKite_85 {G : Kg} {σ : Kmem} {Q : Int → Kmem → Prop} {l1 : Int}  (h : (tk1 σ ∧ rI (10)) ∧ ((¬ ((cIs (10) σ).1) → (tk1 ((cIs (10) σ).2) ∧ rI (11)) ∧ ((¬ ((cIs (11) ((cIs (10) σ).2)).1) → E_X12_aKite_128 G l1 ((cIs (11) ((cIs (10) σ).2)).2) Q) ∧ (((cIs (11) ((cIs (10) σ).2)).1) → (tk1 ((cIs (11) ((cIs (10) σ).2)).2) ∧ ((0 : Int) ≤ (l1 + 4) ∧ ((l1 + 4) : Int) < 3598) ∧ rI (0) ∧ rI (3)) ∧ ((¬ ((cNum ((l1 + 4)) (0) (3) ((cIs (11) ((cIs (10) σ).2)).2)).1) → Q 0 ((cNum ((l1 + 4)) (0) (3) ((cIs (11) ((cIs (10) σ).2)).2)).2)) ∧ (((cNum ((l1 + 4)) (0) (3) ((cIs (11) ((cIs (10) σ).2)).2)).1) → E_X12_aKite_128 G l1 ((cNum ((l1 + 4)) (0) (3) ((cIs (11) ((cIs (10) σ).2)).2)).2) Q))))) ∧ (((cIs (10) σ).1) → (tk1 ((cIs (10) σ).2) ∧ ((0 : Int) ≤ (l1 + 3) ∧ ((l1 + 3) : Int) < 3598) ∧ rI (0) ∧ rI (9)) ∧ ((¬ ((cNum ((l1 + 3)) (0) (9) ((cIs (10) σ).2)).1) → Q 0 ((cNum ((l1 + 3)) (0) (9) ((cIs (10) σ).2)).2)) ∧ (((cNum ((l1 + 3)) (0) (9) ((cIs (10) σ).2)).1) → (tk1 ((cNum ((l1 + 3)) (0) (9) ((cIs (10) σ).2)).2) ∧ rI (11)) ∧ ((¬ ((cIs (11) ((cNum ((l1 + 3)) (0) (9) ((cIs (10) σ).2)).2)).1) → E_X12_aKite_128 G l1 ((cIs (11) ((cNum ((l1 + 3)) (0) (9) ((cIs (10) σ).2)).2)).2) Q) ∧ (((cIs (11) ((cNum ((l1 + 3)) (0) (9) ((cIs (10) σ).2)).2)).1) → (tk1 ((cIs (11) ((cNum ((l1 + 3)) (0) (9) ((cIs (10) σ).2)).2)).2) ∧ ((0 : Int) ≤ (l1 + 4) ∧ ((l1 + 4) : Int) < 3598) ∧ rI (0) ∧ rI (3)) ∧ ((¬ ((cNum ((l1 + 4)) (0) (3) ((cIs (11) ((cNum ((l1 + 3)) (0) (9) ((cIs (10) σ).2)).2)).2)).1) → Q 0 ((cNum ((l1 + 4)) (0) (3) ((cIs (11) ((cNum ((l1 + 3)) (0) (9) ((cIs (10) σ).2)).2)).2)).2)) ∧ (((cNum ((l1 + 4)) (0) (3) ((cIs (11) ((cNum ((l1 + 3)) (0) (9) ((cIs (10) σ).2)).2)).2)).1) → E_X12_aKite_128 G l1 ((cNum ((l1 + 4)) (0) (3) ((cIs (11) ((cNum ((l1 + 3)) (0) (9) ((cIs (10) σ).2)).2)).2)).2) Q))))))))) : E_X12_aKite_85 G l1 σ Q := by
  refine R_aload_n e_X12_aKite_5.2.2.2.2.1 0 rfl ?_
  refine R_bipush e_X12_aKite_5.2.2.2.2.2.1 (by decide) ?_
  obtain ⟨q24, h⟩ := h
  refine R_callV (mc := 0) (ms := 0) (mc' := 0) (ms' := 0) (M' := M_X12_isThere) (d' := 5) (as := [vI 10]) (st := []) 12 1 e_X12_aKite_5.2.2.2.2.2.2.1 (kCVof m_X12_isThere l_X12_209) rfl (by decide) km_0 (by decide) (by decide) rfl rfl (by show (0 : Nat) ≤ 8; decide) ?_
  refine Run.mono (P_X12_isThere q24) (fun r s e => ?_)
  obtain ⟨e1, e2⟩ := e
  refine R_eqs (st2 := [vI (kb ((cIs (10) σ).1))]) (σ2 := ((cIs (10) σ).2)) (by rw [e1]; rfl) e2 ?_
  refine R_if_eq 107 e_X12_aKite_5.2.2.2.2.2.2.2.1 (by decide) (kb_r _) (fun q => ?_) (fun q => ?_)
  · replace h := h.1 (kb_f q)
    refine R_aload_n e_X12_aKite_6.2.2.2.2.2.2.1 0 rfl ?_
    refine R_bipush e_X12_aKite_6.2.2.2.2.2.2.2.1 (by decide) ?_
    obtain ⟨q27, h⟩ := h
    refine R_callV (mc := 0) (ms := 0) (mc' := 0) (ms' := 0) (M' := M_X12_isThere) (d' := 5) (as := [vI 11]) (st := []) 12 1 e_X12_aKite_6.2.2.2.2.2.2.2.2.1 (kCVof m_X12_isThere l_X12_209) rfl (by decide) km_0 (by decide) (by decide) rfl rfl (by show (0 : Nat) ≤ 8; decide) ?_
    refine Run.mono (P_X12_isThere q27) (fun r s e => ?_)
    obtain ⟨e1, e2⟩ := e
    refine R_eqs (st2 := [vI (kb ((cIs (11) ((cIs (10) σ).2)).1))]) (σ2 := ((cIs (11) ((cIs (10) σ).2)).2)) (by rw [e1]; rfl) e2 ?_
    refine R_if_eq 128 e_X12_aKite_6.2.2.2.2.2.2.2.2.2 (by decide) (kb_r _) (fun q => ?_) (fun q => ?_)
    · replace h := h.1 (kb_f q)
      refine R_ls (ls2 := [(0, vA G 0), (1, vI l1)]) [0, 1] rfl ?_
      exact h
    · replace h := h.2 (kb_t q)
      refine R_aload_n e_X12_aKite_7.1 0 rfl ?_
      refine R_iload_n e_X12_aKite_7.2.1 1 rfl ?_
      refine R_iconst e_X12_aKite_7.2.2.1 ?_
      refine R_iadd e_X12_aKite_7.2.2.2.1 ?_
      refine R_iconst e_X12_aKite_7.2.2.2.2.1 ?_
      refine R_iconst e_X12_aKite_7.2.2.2.2.2.1 ?_
      obtain ⟨q30, h⟩ := h
      refine R_callV (mc := 0) (ms := 0) (mc' := 0) (ms' := 0) (M' := M_X12_number) (d' := 2) (as := [vI (l1 + 4), vI 0, vI 3]) (st := []) 12 3 e_X12_aKite_7.2.2.2.2.2.2.1 (kCVof m_X12_number l_X12_199) rfl (by decide) km_0 (by decide) (by decide) rfl rfl (by show (0 : Nat) ≤ 8; decide) ?_
      refine Run.mono (P_X12_number q30) (fun r s e => ?_)
      obtain ⟨e1, e2⟩ := e
      refine R_eqs (st2 := [vI (kb ((cNum ((l1 + 4)) (0) (3) ((cIs (11) ((cIs (10) σ).2)).2)).1))]) (σ2 := ((cNum ((l1 + 4)) (0) (3) ((cIs (11) ((cIs (10) σ).2)).2)).2)) (by rw [e1]; rfl) e2 ?_
      refine R_if_eq 151 e_X12_aKite_7.2.2.2.2.2.2.2.1 (by decide) (kb_r _) (fun q => ?_) (fun q => ?_)
      · replace h := h.1 (kb_f q)
        refine R_iconst e_X12_aKite_9.1 ?_
        exact R_zreturn e_X12_aKite_9.2.1 rfl (Or.inl rfl) h
      · replace h := h.2 (kb_t q)
        refine R_ls (ls2 := [(0, vA G 0), (1, vI l1)]) [0, 1] rfl ?_
        exact h
  · replace h := h.2 (kb_t q)
    refine R_aload_n e_X12_aKite_5.2.2.2.2.2.2.2.2.1 0 rfl ?_
    refine R_iload_n e_X12_aKite_5.2.2.2.2.2.2.2.2.2 1 rfl ?_
    refine R_iconst e_X12_aKite_6.1 ?_
    refine R_iadd e_X12_aKite_6.2.1 ?_
    refine R_iconst e_X12_aKite_6.2.2.1 ?_
    refine R_bipush e_X12_aKite_6.2.2.2.1 (by decide) ?_
    obtain ⟨q33, h⟩ := h
    refine R_callV (mc := 0) (ms := 0) (mc' := 0) (ms' := 0) (M' := M_X12_number) (d' := 2) (as := [vI (l1 + 3), vI 0, vI 9]) (st := []) 12 3 e_X12_aKite_6.2.2.2.2.1 (kCVof m_X12_number l_X12_199) rfl (by decide) km_0 (by decide) (by decide) rfl rfl (by show (0 : Nat) ≤ 8; decide) ?_
    refine Run.mono (P_X12_number q33) (fun r s e => ?_)
    obtain ⟨e1, e2⟩ := e
    refine R_eqs (st2 := [vI (kb ((cNum ((l1 + 3)) (0) (9) ((cIs (10) σ).2)).1))]) (σ2 := ((cNum ((l1 + 3)) (0) (9) ((cIs (10) σ).2)).2)) (by rw [e1]; rfl) e2 ?_
    refine R_if_eq 151 e_X12_aKite_6.2.2.2.2.2.1 (by decide) (kb_r _) (fun q => ?_) (fun q => ?_)
    · replace h := h.1 (kb_f q)
      refine R_iconst e_X12_aKite_9.1 ?_
      exact R_zreturn e_X12_aKite_9.2.1 rfl (Or.inl rfl) h
    · replace h := h.2 (kb_t q)
      refine R_aload_n e_X12_aKite_6.2.2.2.2.2.2.1 0 rfl ?_
      refine R_bipush e_X12_aKite_6.2.2.2.2.2.2.2.1 (by decide) ?_
      obtain ⟨q36, h⟩ := h
      refine R_callV (mc := 0) (ms := 0) (mc' := 0) (ms' := 0) (M' := M_X12_isThere) (d' := 5) (as := [vI 11]) (st := []) 12 1 e_X12_aKite_6.2.2.2.2.2.2.2.2.1 (kCVof m_X12_isThere l_X12_209) rfl (by decide) km_0 (by decide) (by decide) rfl rfl (by show (0 : Nat) ≤ 8; decide) ?_
      refine Run.mono (P_X12_isThere q36) (fun r s e => ?_)
      obtain ⟨e1, e2⟩ := e
      refine R_eqs (st2 := [vI (kb ((cIs (11) ((cNum ((l1 + 3)) (0) (9) ((cIs (10) σ).2)).2)).1))]) (σ2 := ((cIs (11) ((cNum ((l1 + 3)) (0) (9) ((cIs (10) σ).2)).2)).2)) (by rw [e1]; rfl) e2 ?_
      refine R_if_eq 128 e_X12_aKite_6.2.2.2.2.2.2.2.2.2 (by decide) (kb_r _) (fun q => ?_) (fun q => ?_)
      · replace h := h.1 (kb_f q)
        refine R_ls (ls2 := [(0, vA G 0), (1, vI l1)]) [0, 1] rfl ?_
        exact h
      · replace h := h.2 (kb_t q)
        refine R_aload_n e_X12_aKite_7.1 0 rfl ?_
        refine R_iload_n e_X12_aKite_7.2.1 1 rfl ?_
        refine R_iconst e_X12_aKite_7.2.2.1 ?_
        refine R_iadd e_X12_aKite_7.2.2.2.1 ?_
        refine R_iconst e_X12_aKite_7.2.2.2.2.1 ?_
        refine R_iconst e_X12_aKite_7.2.2.2.2.2.1 ?_
        obtain ⟨q39, h⟩ := h
        refine R_callV (mc := 0) (ms := 0) (mc' := 0) (ms' := 0) (M' := M_X12_number) (d' := 2) (as := [vI (l1 + 4), vI 0, vI 3]) (st := []) 12 3 e_X12_aKite_7.2.2.2.2.2.2.1 (kCVof m_X12_number l_X12_199) rfl (by decide) km_0 (by decide) (by decide) rfl rfl (by show (0 : Nat) ≤ 8; decide) ?_
        refine Run.mono (P_X12_number q39) (fun r s e => ?_)
        obtain ⟨e1, e2⟩ := e
        refine R_eqs (st2 := [vI (kb ((cNum ((l1 + 4)) (0) (3) ((cIs (11) ((cNum ((l1 + 3)) (0) (9) ((cIs (10) σ).2)).2)).2)).1))]) (σ2 := ((cNum ((l1 + 4)) (0) (3) ((cIs (11) ((cNum ((l1 + 3)) (0) (9) ((cIs (10) σ).2)).2)).2)).2)) (by rw [e1]; rfl) e2 ?_
        refine R_if_eq 151 e_X12_aKite_7.2.2.2.2.2.2.2.1 (by decide) (kb_r _) (fun q => ?_) (fun q => ?_)
        · replace h := h.1 (kb_f q)
          refine R_iconst e_X12_aKite_9.1 ?_
          exact R_zreturn e_X12_aKite_9.2.1 rfl (Or.inl rfl) h
        · replace h := h.2 (kb_t q)
          refine R_ls (ls2 := [(0, vA G 0), (1, vI l1)]) [0, 1] rfl ?_
          exact h
theorem S_X12_aKite_128 {G : Kg} {σ : Kmem} {Q : Int → Kmem → Prop} {l1 : Int}  (h : (tk1 σ ∧ rI (12)) ∧ ((¬ ((cIs (12) σ).1) → ∀ m43 : Kmem, m43 = (kup ((cIs (12) σ).2) 1 2058 ((((cIs (12) σ).2) 1 2058) + 1)) → Q 1 m43) ∧ (((cIs (12) σ).1) → (tk1 ((cIs (12) σ).2) ∧ ((0 : Int) ≤ (l1 + 7) ∧ ((l1 + 7) : Int) < 3598) ∧ rI (0) ∧ rI (7)) ∧ ((((cNum ((l1 + 7)) (0) (7) ((cIs (12) σ).2)).1) → ∀ m48 : Kmem, m48 = (kup ((cNum ((l1 + 7)) (0) (7) ((cIs (12) σ).2)).2) 1 2058 ((((cNum ((l1 + 7)) (0) (7) ((cIs (12) σ).2)).2) 1 2058) + 1)) → Q 1 m48) ∧ (¬ ((cNum ((l1 + 7)) (0) (7) ((cIs (12) σ).2)).1) → Q 0 ((cNum ((l1 + 7)) (0) (7) ((cIs (12) σ).2)).2)))))) : E_X12_aKite_128 G l1 σ Q := by
  refine R_aload_n e_X12_aKite_7.2.2.2.2.2.2.2.2.1 0 rfl ?_
  refine R_bipush e_X12_aKite_7.2.2.2.2.2.2.2.2.2 (by decide) ?_
  obtain ⟨q42, h⟩ := h
  refine R_callV (mc := 0) (ms := 0) (mc' := 0) (ms' := 0) (M' := M_X12_isThere) (d' := 5) (as := [vI 12]) (st := []) 12 1 e_X12_aKite_8.1 (kCVof m_X12_isThere l_X12_209) rfl (by decide) km_0 (by decide) (by decide) rfl rfl (by show (0 : Nat) ≤ 8; decide) ?_
  refine Run.mono (P_X12_isThere q42) (fun r s e => ?_)
  obtain ⟨e1, e2⟩ := e
  refine R_eqs (st2 := [vI (kb ((cIs (12) σ).1))]) (σ2 := ((cIs (12) σ).2)) (by rw [e1]; rfl) e2 ?_
  refine R_if_eq 153 e_X12_aKite_8.2.1 (by decide) (kb_r _) (fun q => ?_) (fun q => ?_)
  · replace h := h.1 (kb_f q)
    refine R_aload_n e_X12_aKite_9.2.2.1 0 rfl ?_
    refine R_getA 12 0 1 e_X12_aKite_9.2.2.2.1 f_X12_7 km_0 (fun _ _ => rfl) rm_0_0 (by decide) ?_
    refine R_sipush e_X12_aKite_9.2.2.2.2.1 (by decide) ?_
    refine R_dup2 e_X12_aKite_9.2.2.2.2.2.1 rfl rfl ?_
    refine R_iald 3598 e_X12_aKite_9.2.2.2.2.2.2.1 kma_1 (by decide) ?_
    refine R_iconst e_X12_aKite_9.2.2.2.2.2.2.2.1 ?_
    refine R_iadd e_X12_aKite_9.2.2.2.2.2.2.2.2.1 ?_
    refine R_iast 3598 WM_ok e_X12_aKite_9.2.2.2.2.2.2.2.2.2 kma_1 (by decide) ?_
    obtain ⟨m43, e44⟩ : ∃ z : Kmem, z = (kup ((cIs (12) σ).2) 1 2058 ((((cIs (12) σ).2) 1 2058) + 1)) := ⟨_, rfl⟩
    rw [← e44]
    replace h := h m43 e44
    refine R_iconst e_X12_aKite_10.1 ?_
    exact R_zreturn e_X12_aKite_10.2 rfl (Or.inr rfl) h
  · replace h := h.2 (kb_t q)
    refine R_aload_n e_X12_aKite_8.2.2.1 0 rfl ?_
    refine R_iload_n e_X12_aKite_8.2.2.2.1 1 rfl ?_
    refine R_bipush e_X12_aKite_8.2.2.2.2.1 (by decide) ?_
    refine R_iadd e_X12_aKite_8.2.2.2.2.2.1 ?_
    refine R_iconst e_X12_aKite_8.2.2.2.2.2.2.1 ?_
    refine R_bipush e_X12_aKite_8.2.2.2.2.2.2.2.1 (by decide) ?_
    obtain ⟨q47, h⟩ := h
    refine R_callV (mc := 0) (ms := 0) (mc' := 0) (ms' := 0) (M' := M_X12_number) (d' := 2) (as := [vI (l1 + 7), vI 0, vI 7]) (st := []) 12 3 e_X12_aKite_8.2.2.2.2.2.2.2.2.1 (kCVof m_X12_number l_X12_199) rfl (by decide) km_0 (by decide) (by decide) rfl rfl (by show (0 : Nat) ≤ 8; decide) ?_
    refine Run.mono (P_X12_number q47) (fun r s e => ?_)
    obtain ⟨e1, e2⟩ := e
    refine R_eqs (st2 := [vI (kb ((cNum ((l1 + 7)) (0) (7) ((cIs (12) σ).2)).1))]) (σ2 := ((cNum ((l1 + 7)) (0) (7) ((cIs (12) σ).2)).2)) (by rw [e1]; rfl) e2 ?_
    refine R_if_ne 153 e_X12_aKite_8.2.2.2.2.2.2.2.2.2 (by decide) (kb_r _) (fun q => ?_) (fun q => ?_)
    · replace h := h.1 (kb_t q)
      refine R_aload_n e_X12_aKite_9.2.2.1 0 rfl ?_
      refine R_getA 12 0 1 e_X12_aKite_9.2.2.2.1 f_X12_7 km_0 (fun _ _ => rfl) rm_0_0 (by decide) ?_
      refine R_sipush e_X12_aKite_9.2.2.2.2.1 (by decide) ?_
      refine R_dup2 e_X12_aKite_9.2.2.2.2.2.1 rfl rfl ?_
      refine R_iald 3598 e_X12_aKite_9.2.2.2.2.2.2.1 kma_1 (by decide) ?_
      refine R_iconst e_X12_aKite_9.2.2.2.2.2.2.2.1 ?_
      refine R_iadd e_X12_aKite_9.2.2.2.2.2.2.2.2.1 ?_
      refine R_iast 3598 WM_ok e_X12_aKite_9.2.2.2.2.2.2.2.2.2 kma_1 (by decide) ?_
      obtain ⟨m48, e49⟩ : ∃ z : Kmem, z = (kup ((cNum ((l1 + 7)) (0) (7) ((cIs (12) σ).2)).2) 1 2058 ((((cNum ((l1 + 7)) (0) (7) ((cIs (12) σ).2)).2) 1 2058) + 1)) := ⟨_, rfl⟩
      rw [← e49]
      replace h := h m48 e49
      refine R_iconst e_X12_aKite_10.1 ?_
      exact R_zreturn e_X12_aKite_10.2 rfl (Or.inr rfl) h
    · replace h := h.2 (kb_f q)
      refine R_iconst e_X12_aKite_9.1 ?_
      exact R_zreturn e_X12_aKite_9.2.1 rfl (Or.inl rfl) h
/-! KiteLandModel.aCrop()Z -/
theorem e_X12_aCrop_0 : decode cX12_aCrop 0 = .ok (.sipush 2144, 3) ∧ decode cX12_aCrop 3 = .ok (.iconst 4, 1) ∧ decode cX12_aCrop 4 = .ok (.aload_n 0, 1) ∧ decode cX12_aCrop 5 = .ok (.getfield 7, 3) ∧ decode cX12_aCrop 8 = .ok (.sipush 2059, 3) ∧ decode cX12_aCrop 11 = .ok (.iaload, 1) ∧ decode cX12_aCrop 12 = .ok (.imul, 1) ∧ decode cX12_aCrop 13 = .ok (.iadd, 1) ∧ decode cX12_aCrop 14 = .ok (.istore_n 1, 1) ∧ decode cX12_aCrop 15 = .ok (.aload_n 0, 1) := by decide +kernel
theorem e_X12_aCrop_1 : decode cX12_aCrop 16 = .ok (.iconst 3, 1) ∧ decode cX12_aCrop 17 = .ok (.bipush 8, 2) ∧ decode cX12_aCrop 19 = .ok (.bipush 6, 2) ∧ decode cX12_aCrop 21 = .ok (.invokevirtual 203, 3) ∧ decode cX12_aCrop 24 = .ok (.ifCond .eq 35, 3) ∧ decode cX12_aCrop 27 = .ok (.aload_n 0, 1) ∧ decode cX12_aCrop 28 = .ok (.iload_n 1, 1) ∧ decode cX12_aCrop 29 = .ok (.invokevirtual 206, 3) ∧ decode cX12_aCrop 32 = .ok (.ifCond .eq 27, 3) ∧ decode cX12_aCrop 35 = .ok (.aload_n 0, 1) := by decide +kernel
theorem e_X12_aCrop_2 : decode cX12_aCrop 36 = .ok (.ldc 186, 2) ∧ decode cX12_aCrop 38 = .ok (.bipush 13, 2) ∧ decode cX12_aCrop 40 = .ok (.invokevirtual 195, 3) ∧ decode cX12_aCrop 43 = .ok (.ifCond .eq 16, 3) ∧ decode cX12_aCrop 46 = .ok (.aload_n 0, 1) ∧ decode cX12_aCrop 47 = .ok (.iload_n 1, 1) ∧ decode cX12_aCrop 48 = .ok (.iconst 2, 1) ∧ decode cX12_aCrop 49 = .ok (.iadd, 1) ∧ decode cX12_aCrop 50 = .ok (.iconst 1, 1) ∧ decode cX12_aCrop 51 = .ok (.bipush 99, 2) := by decide +kernel
theorem e_X12_aCrop_3 : decode cX12_aCrop 53 = .ok (.invokevirtual 199, 3) ∧ decode cX12_aCrop 56 = .ok (.ifCond .ne 5, 3) ∧ decode cX12_aCrop 59 = .ok (.iconst 0, 1) ∧ decode cX12_aCrop 60 = .ok (.ireturn, 1) ∧ decode cX12_aCrop 61 = .ok (.aload_n 0, 1) ∧ decode cX12_aCrop 62 = .ok (.getfield 7, 3) ∧ decode cX12_aCrop 65 = .ok (.sipush 2059, 3) ∧ decode cX12_aCrop 68 = .ok (.dup2, 1) ∧ decode cX12_aCrop 69 = .ok (.iaload, 1) ∧ decode cX12_aCrop 70 = .ok (.iconst 1, 1) := by decide +kernel
theorem e_X12_aCrop_4 : decode cX12_aCrop 71 = .ok (.iadd, 1) ∧ decode cX12_aCrop 72 = .ok (.iastore, 1) ∧ decode cX12_aCrop 73 = .ok (.iconst 1, 1) ∧ decode cX12_aCrop 74 = .ok (.ireturn, 1) := by decide +kernel
theorem S_X12_aCrop {G : Kg} {σ : Kmem} {Q : Int → Kmem → Prop}  (h : (tk2 σ ∧ pNew (3) (8) (6)) ∧ ((¬ ((cNew (3) (8) (6) σ).1) → Q 0 ((cNew (3) (8) (6) σ).2)) ∧ (((cNew (3) (8) (6) σ).1) → (tk2 ((cNew (3) (8) (6) σ).2) ∧ (2090 : Int) ≤ (2144 + (4 * (σ 1 2059))) ∧ ((2144 + (4 * (σ 1 2059))) : Int) < 2500) ∧ ((¬ ((cFld ((2144 + (4 * (σ 1 2059)))) ((cNew (3) (8) (6) σ).2)).1) → Q 0 ((cFld ((2144 + (4 * (σ 1 2059)))) ((cNew (3) (8) (6) σ).2)).2)) ∧ (((cFld ((2144 + (4 * (σ 1 2059)))) ((cNew (3) (8) (6) σ).2)).1) → (tk1 ((cFld ((2144 + (4 * (σ 1 2059)))) ((cNew (3) (8) (6) σ).2)).2) ∧ rI (13)) ∧ ((¬ ((cWord (13) ((cFld ((2144 + (4 * (σ 1 2059)))) ((cNew (3) (8) (6) σ).2)).2)).1) → Q 0 ((cWord (13) ((cFld ((2144 + (4 * (σ 1 2059)))) ((cNew (3) (8) (6) σ).2)).2)).2)) ∧ (((cWord (13) ((cFld ((2144 + (4 * (σ 1 2059)))) ((cNew (3) (8) (6) σ).2)).2)).1) → (tk1 ((cWord (13) ((cFld ((2144 + (4 * (σ 1 2059)))) ((cNew (3) (8) (6) σ).2)).2)).2) ∧ ((0 : Int) ≤ ((2144 + (4 * (σ 1 2059))) + 2) ∧ (((2144 + (4 * (σ 1 2059))) + 2) : Int) < 3598) ∧ rI (1) ∧ rI (99)) ∧ ((((cNum (((2144 + (4 * (σ 1 2059))) + 2)) (1) (99) ((cWord (13) ((cFld ((2144 + (4 * (σ 1 2059)))) ((cNew (3) (8) (6) σ).2)).2)).2)).1) → ∀ m13 : Kmem, m13 = (kup ((cNum (((2144 + (4 * (σ 1 2059))) + 2)) (1) (99) ((cWord (13) ((cFld ((2144 + (4 * (σ 1 2059)))) ((cNew (3) (8) (6) σ).2)).2)).2)).2) 1 2059 ((((cNum (((2144 + (4 * (σ 1 2059))) + 2)) (1) (99) ((cWord (13) ((cFld ((2144 + (4 * (σ 1 2059)))) ((cNew (3) (8) (6) σ).2)).2)).2)).2) 1 2059) + 1)) → Q 1 m13) ∧ (¬ ((cNum (((2144 + (4 * (σ 1 2059))) + 2)) (1) (99) ((cWord (13) ((cFld ((2144 + (4 * (σ 1 2059)))) ((cNew (3) (8) (6) σ).2)).2)).2)).1) → Q 0 ((cNum (((2144 + (4 * (σ 1 2059))) + 2)) (1) (99) ((cWord (13) ((cFld ((2144 + (4 * (σ 1 2059)))) ((cNew (3) (8) (6) σ).2)).2)).2)).2)))))))))) : Run G WM M_X12_aCrop 7 0 0 [vA G 0] σ Q := by
  refine Run.of (by decide +kernel) (by show (1 : Nat) ≤ 2; decide) ?_
  show Ex G WM M_X12_aCrop 7 0 0 0 [(0, vA G 0)] [] σ Q
  refine R_sipush e_X12_aCrop_0.1 (by decide) ?_
  refine R_iconst e_X12_aCrop_0.2.1 ?_
  refine R_aload_n e_X12_aCrop_0.2.2.1 0 rfl ?_
  refine R_getA 12 0 1 e_X12_aCrop_0.2.2.2.1 f_X12_7 km_0 (fun _ _ => rfl) rm_0_0 (by decide) ?_
  refine R_sipush e_X12_aCrop_0.2.2.2.2.1 (by decide) ?_
  refine R_iald 3598 e_X12_aCrop_0.2.2.2.2.2.1 kma_1 (by decide) ?_
  refine R_imul e_X12_aCrop_0.2.2.2.2.2.2.1 ?_
  refine R_iadd e_X12_aCrop_0.2.2.2.2.2.2.2.1 ?_
  refine R_istore_n (ls2 := [(1, vI (2144 + (4 * (σ 1 2059)))), (0, vA G 0)]) e_X12_aCrop_0.2.2.2.2.2.2.2.2.1 (by decide) rfl ?_
  refine R_aload_n e_X12_aCrop_0.2.2.2.2.2.2.2.2.2 1 rfl ?_
  refine R_iconst e_X12_aCrop_1.1 ?_
  refine R_bipush e_X12_aCrop_1.2.1 (by decide) ?_
  refine R_bipush e_X12_aCrop_1.2.2.1 (by decide) ?_
  obtain ⟨q3, h⟩ := h
  refine R_callV (mc := 0) (ms := 0) (mc' := 0) (ms' := 0) (M' := M_X12_newOne) (d' := 6) (as := [vI 3, vI 8, vI 6]) (st := []) 12 3 e_X12_aCrop_1.2.2.2.1 (kCVof m_X12_newOne l_X12_203) rfl (by decide) km_0 (by decide) (by decide) rfl rfl (by show (0 : Nat) ≤ 8; decide) ?_
  refine Run.mono (P_X12_newOne q3) (fun r s e => ?_)
  obtain ⟨e1, e2⟩ := e
  refine R_eqs (st2 := [vI (kb ((cNew (3) (8) (6) σ).1))]) (σ2 := ((cNew (3) (8) (6) σ).2)) (by rw [e1]; rfl) e2 ?_
  refine R_if_eq 59 e_X12_aCrop_1.2.2.2.2.1 (by decide) (kb_r _) (fun q => ?_) (fun q => ?_)
  · replace h := h.1 (kb_f q)
    refine R_iconst e_X12_aCrop_3.2.2.1 ?_
    exact R_zreturn e_X12_aCrop_3.2.2.2.1 rfl (Or.inl rfl) h
  · replace h := h.2 (kb_t q)
    refine R_aload_n e_X12_aCrop_1.2.2.2.2.2.1 1 rfl ?_
    refine R_iload_n e_X12_aCrop_1.2.2.2.2.2.2.1 0 rfl ?_
    obtain ⟨q6, h⟩ := h
    refine R_callV (mc := 0) (ms := 0) (mc' := 0) (ms' := 0) (M' := M_X12_fieldTo) (d' := 6) (as := [vI (2144 + (4 * (σ 1 2059)))]) (st := []) 12 1 e_X12_aCrop_1.2.2.2.2.2.2.2.1 (kCVof m_X12_fieldTo l_X12_206) rfl (by decide) km_0 (by decide) (by decide) rfl rfl (by show (0 : Nat) ≤ 8; decide) ?_
    refine Run.mono (P_X12_fieldTo q6) (fun r s e => ?_)
    obtain ⟨e1, e2⟩ := e
    refine R_eqs (st2 := [vI (kb ((cFld ((2144 + (4 * (σ 1 2059)))) ((cNew (3) (8) (6) σ).2)).1))]) (σ2 := ((cFld ((2144 + (4 * (σ 1 2059)))) ((cNew (3) (8) (6) σ).2)).2)) (by rw [e1]; rfl) e2 ?_
    refine R_if_eq 59 e_X12_aCrop_1.2.2.2.2.2.2.2.2.1 (by decide) (kb_r _) (fun q => ?_) (fun q => ?_)
    · replace h := h.1 (kb_f q)
      refine R_iconst e_X12_aCrop_3.2.2.1 ?_
      exact R_zreturn e_X12_aCrop_3.2.2.2.1 rfl (Or.inl rfl) h
    · replace h := h.2 (kb_t q)
      refine R_aload_n e_X12_aCrop_1.2.2.2.2.2.2.2.2.2 1 rfl ?_
      refine R_ldcS (i := 28) (-38) e_X12_aCrop_2.1 rfl rfl ?_
      refine R_bipush e_X12_aCrop_2.2.1 (by decide) ?_
      obtain ⟨q9, h⟩ := h
      refine R_callV (mc := 0) (ms := 0) (mc' := 0) (ms' := 0) (M' := M_X12_wantWord) (d' := 5) (as := [vA G (-38), vI 13]) (st := []) 12 2 e_X12_aCrop_2.2.2.1 (kCVof m_X12_wantWord l_X12_195) rfl (by decide) km_0 (by decide) (by decide) rfl rfl (by show (0 : Nat) ≤ 8; decide) ?_
      refine Run.mono (P_X12_wantWord q9) (fun r s e => ?_)
      obtain ⟨e1, e2⟩ := e
      refine R_eqs (st2 := [vI (kb ((cWord (13) ((cFld ((2144 + (4 * (σ 1 2059)))) ((cNew (3) (8) (6) σ).2)).2)).1))]) (σ2 := ((cWord (13) ((cFld ((2144 + (4 * (σ 1 2059)))) ((cNew (3) (8) (6) σ).2)).2)).2)) (by rw [e1]; rfl) e2 ?_
      refine R_if_eq 59 e_X12_aCrop_2.2.2.2.1 (by decide) (kb_r _) (fun q => ?_) (fun q => ?_)
      · replace h := h.1 (kb_f q)
        refine R_iconst e_X12_aCrop_3.2.2.1 ?_
        exact R_zreturn e_X12_aCrop_3.2.2.2.1 rfl (Or.inl rfl) h
      · replace h := h.2 (kb_t q)
        refine R_aload_n e_X12_aCrop_2.2.2.2.2.1 1 rfl ?_
        refine R_iload_n e_X12_aCrop_2.2.2.2.2.2.1 0 rfl ?_
        refine R_iconst e_X12_aCrop_2.2.2.2.2.2.2.1 ?_
        refine R_iadd e_X12_aCrop_2.2.2.2.2.2.2.2.1 ?_
        refine R_iconst e_X12_aCrop_2.2.2.2.2.2.2.2.2.1 ?_
        refine R_bipush e_X12_aCrop_2.2.2.2.2.2.2.2.2.2 (by decide) ?_
        obtain ⟨q12, h⟩ := h
        refine R_callV (mc := 0) (ms := 0) (mc' := 0) (ms' := 0) (M' := M_X12_number) (d' := 2) (as := [vI ((2144 + (4 * (σ 1 2059))) + 2), vI 1, vI 99]) (st := []) 12 3 e_X12_aCrop_3.1 (kCVof m_X12_number l_X12_199) rfl (by decide) km_0 (by decide) (by decide) rfl rfl (by show (0 : Nat) ≤ 8; decide) ?_
        refine Run.mono (P_X12_number q12) (fun r s e => ?_)
        obtain ⟨e1, e2⟩ := e
        refine R_eqs (st2 := [vI (kb ((cNum (((2144 + (4 * (σ 1 2059))) + 2)) (1) (99) ((cWord (13) ((cFld ((2144 + (4 * (σ 1 2059)))) ((cNew (3) (8) (6) σ).2)).2)).2)).1))]) (σ2 := ((cNum (((2144 + (4 * (σ 1 2059))) + 2)) (1) (99) ((cWord (13) ((cFld ((2144 + (4 * (σ 1 2059)))) ((cNew (3) (8) (6) σ).2)).2)).2)).2)) (by rw [e1]; rfl) e2 ?_
        refine R_if_ne 61 e_X12_aCrop_3.2.1 (by decide) (kb_r _) (fun q => ?_) (fun q => ?_)
        · replace h := h.1 (kb_t q)
          refine R_aload_n e_X12_aCrop_3.2.2.2.2.1 1 rfl ?_
          refine R_getA 12 0 1 e_X12_aCrop_3.2.2.2.2.2.1 f_X12_7 km_0 (fun _ _ => rfl) rm_0_0 (by decide) ?_
          refine R_sipush e_X12_aCrop_3.2.2.2.2.2.2.1 (by decide) ?_
          refine R_dup2 e_X12_aCrop_3.2.2.2.2.2.2.2.1 rfl rfl ?_
          refine R_iald 3598 e_X12_aCrop_3.2.2.2.2.2.2.2.2.1 kma_1 (by decide) ?_
          refine R_iconst e_X12_aCrop_3.2.2.2.2.2.2.2.2.2 ?_
          refine R_iadd e_X12_aCrop_4.1 ?_
          refine R_iast 3598 WM_ok e_X12_aCrop_4.2.1 kma_1 (by decide) ?_
          obtain ⟨m13, e14⟩ : ∃ z : Kmem, z = (kup ((cNum (((2144 + (4 * (σ 1 2059))) + 2)) (1) (99) ((cWord (13) ((cFld ((2144 + (4 * (σ 1 2059)))) ((cNew (3) (8) (6) σ).2)).2)).2)).2) 1 2059 ((((cNum (((2144 + (4 * (σ 1 2059))) + 2)) (1) (99) ((cWord (13) ((cFld ((2144 + (4 * (σ 1 2059)))) ((cNew (3) (8) (6) σ).2)).2)).2)).2) 1 2059) + 1)) := ⟨_, rfl⟩
          rw [← e14]
          replace h := h m13 e14
          refine R_iconst e_X12_aCrop_4.2.2.1 ?_
          exact R_zreturn e_X12_aCrop_4.2.2.2 rfl (Or.inr rfl) h
        · replace h := h.2 (kb_f q)
          refine R_iconst e_X12_aCrop_3.2.2.1 ?_
          exact R_zreturn e_X12_aCrop_3.2.2.2.1 rfl (Or.inl rfl) h
/-! KiteLandModel.aTenant()Z -/
theorem e_X12_aTenant_0 : decode cX12_aTenant 0 = .ok (.sipush 2176, 3) ∧ decode cX12_aTenant 3 = .ok (.iconst 5, 1) ∧ decode cX12_aTenant 4 = .ok (.aload_n 0, 1) ∧ decode cX12_aTenant 5 = .ok (.getfield 7, 3) ∧ decode cX12_aTenant 8 = .ok (.sipush 2060, 3) ∧ decode cX12_aTenant 11 = .ok (.iaload, 1) ∧ decode cX12_aTenant 12 = .ok (.imul, 1) ∧ decode cX12_aTenant 13 = .ok (.iadd, 1) ∧ decode cX12_aTenant 14 = .ok (.istore_n 1, 1) ∧ decode cX12_aTenant 15 = .ok (.aload_n 0, 1) := by decide +kernel
theorem e_X12_aTenant_1 : decode cX12_aTenant 16 = .ok (.iconst 4, 1) ∧ decode cX12_aTenant 17 = .ok (.bipush 6, 2) ∧ decode cX12_aTenant 19 = .ok (.bipush 14, 2) ∧ decode cX12_aTenant 21 = .ok (.invokevirtual 203, 3) ∧ decode cX12_aTenant 24 = .ok (.ifCond .eq 42, 3) ∧ decode cX12_aTenant 27 = .ok (.aload_n 0, 1) ∧ decode cX12_aTenant 28 = .ok (.iload_n 1, 1) ∧ decode cX12_aTenant 29 = .ok (.invokevirtual 206, 3) ∧ decode cX12_aTenant 32 = .ok (.ifCond .eq 34, 3) ∧ decode cX12_aTenant 35 = .ok (.aload_n 0, 1) := by decide +kernel
theorem e_X12_aTenant_2 : decode cX12_aTenant 36 = .ok (.ldc 186, 2) ∧ decode cX12_aTenant 38 = .ok (.bipush 14, 2) ∧ decode cX12_aTenant 40 = .ok (.invokevirtual 195, 3) ∧ decode cX12_aTenant 43 = .ok (.ifCond .eq 23, 3) ∧ decode cX12_aTenant 46 = .ok (.aload_n 0, 1) ∧ decode cX12_aTenant 47 = .ok (.bipush 80, 2) ∧ decode cX12_aTenant 49 = .ok (.aload_n 0, 1) ∧ decode cX12_aTenant 50 = .ok (.getfield 7, 3) ∧ decode cX12_aTenant 53 = .ok (.sipush 2058, 3) ∧ decode cX12_aTenant 56 = .ok (.iaload, 1) := by decide +kernel
theorem e_X12_aTenant_3 : decode cX12_aTenant 57 = .ok (.iload_n 1, 1) ∧ decode cX12_aTenant 58 = .ok (.iconst 2, 1) ∧ decode cX12_aTenant 59 = .ok (.iadd, 1) ∧ decode cX12_aTenant 60 = .ok (.invokevirtual 212, 3) ∧ decode cX12_aTenant 63 = .ok (.ifCond .ne 5, 3) ∧ decode cX12_aTenant 66 = .ok (.iconst 0, 1) ∧ decode cX12_aTenant 67 = .ok (.ireturn, 1) ∧ decode cX12_aTenant 68 = .ok (.aload_n 0, 1) ∧ decode cX12_aTenant 69 = .ok (.getfield 7, 3) ∧ decode cX12_aTenant 72 = .ok (.sipush 2060, 3) := by decide +kernel
theorem e_X12_aTenant_4 : decode cX12_aTenant 75 = .ok (.dup2, 1) ∧ decode cX12_aTenant 76 = .ok (.iaload, 1) ∧ decode cX12_aTenant 77 = .ok (.iconst 1, 1) ∧ decode cX12_aTenant 78 = .ok (.iadd, 1) ∧ decode cX12_aTenant 79 = .ok (.iastore, 1) ∧ decode cX12_aTenant 80 = .ok (.iconst 1, 1) ∧ decode cX12_aTenant 81 = .ok (.ireturn, 1) := by decide +kernel
theorem S_X12_aTenant {G : Kg} {σ : Kmem} {Q : Int → Kmem → Prop}  (h : (tk2 σ ∧ pNew (4) (6) (14)) ∧ ((¬ ((cNew (4) (6) (14) σ).1) → Q 0 ((cNew (4) (6) (14) σ).2)) ∧ (((cNew (4) (6) (14) σ).1) → (tk2 ((cNew (4) (6) (14) σ).2) ∧ (2090 : Int) ≤ (2176 + (5 * (σ 1 2060))) ∧ ((2176 + (5 * (σ 1 2060))) : Int) < 2500) ∧ ((¬ ((cFld ((2176 + (5 * (σ 1 2060)))) ((cNew (4) (6) (14) σ).2)).1) → Q 0 ((cFld ((2176 + (5 * (σ 1 2060)))) ((cNew (4) (6) (14) σ).2)).2)) ∧ (((cFld ((2176 + (5 * (σ 1 2060)))) ((cNew (4) (6) (14) σ).2)).1) → (tk1 ((cFld ((2176 + (5 * (σ 1 2060)))) ((cNew (4) (6) (14) σ).2)).2) ∧ rI (14)) ∧ ((¬ ((cWord (14) ((cFld ((2176 + (5 * (σ 1 2060)))) ((cNew (4) (6) (14) σ).2)).2)).1) → Q 0 ((cWord (14) ((cFld ((2176 + (5 * (σ 1 2060)))) ((cNew (4) (6) (14) σ).2)).2)).2)) ∧ (((cWord (14) ((cFld ((2176 + (5 * (σ 1 2060)))) ((cNew (4) (6) (14) σ).2)).2)).1) → (tk3 ((cWord (14) ((cFld ((2176 + (5 * (σ 1 2060)))) ((cNew (4) (6) (14) σ).2)).2)).2) ∧ pOld (80) ((((cWord (14) ((cFld ((2176 + (5 * (σ 1 2060)))) ((cNew (4) (6) (14) σ).2)).2)).2) 1 2058)) (((2176 + (5 * (σ 1 2060))) + 2))) ∧ ((((cOld (80) ((((cWord (14) ((cFld ((2176 + (5 * (σ 1 2060)))) ((cNew (4) (6) (14) σ).2)).2)).2) 1 2058)) (((2176 + (5 * (σ 1 2060))) + 2)) ((cWord (14) ((cFld ((2176 + (5 * (σ 1 2060)))) ((cNew (4) (6) (14) σ).2)).2)).2)).1) → ∀ m13 : Kmem, m13 = (kup ((cOld (80) ((((cWord (14) ((cFld ((2176 + (5 * (σ 1 2060)))) ((cNew (4) (6) (14) σ).2)).2)).2) 1 2058)) (((2176 + (5 * (σ 1 2060))) + 2)) ((cWord (14) ((cFld ((2176 + (5 * (σ 1 2060)))) ((cNew (4) (6) (14) σ).2)).2)).2)).2) 1 2060 ((((cOld (80) ((((cWord (14) ((cFld ((2176 + (5 * (σ 1 2060)))) ((cNew (4) (6) (14) σ).2)).2)).2) 1 2058)) (((2176 + (5 * (σ 1 2060))) + 2)) ((cWord (14) ((cFld ((2176 + (5 * (σ 1 2060)))) ((cNew (4) (6) (14) σ).2)).2)).2)).2) 1 2060) + 1)) → Q 1 m13) ∧ (¬ ((cOld (80) ((((cWord (14) ((cFld ((2176 + (5 * (σ 1 2060)))) ((cNew (4) (6) (14) σ).2)).2)).2) 1 2058)) (((2176 + (5 * (σ 1 2060))) + 2)) ((cWord (14) ((cFld ((2176 + (5 * (σ 1 2060)))) ((cNew (4) (6) (14) σ).2)).2)).2)).1) → Q 0 ((cOld (80) ((((cWord (14) ((cFld ((2176 + (5 * (σ 1 2060)))) ((cNew (4) (6) (14) σ).2)).2)).2) 1 2058)) (((2176 + (5 * (σ 1 2060))) + 2)) ((cWord (14) ((cFld ((2176 + (5 * (σ 1 2060)))) ((cNew (4) (6) (14) σ).2)).2)).2)).2)))))))))) : Run G WM M_X12_aTenant 7 0 0 [vA G 0] σ Q := by
  refine Run.of (by decide +kernel) (by show (1 : Nat) ≤ 2; decide) ?_
  show Ex G WM M_X12_aTenant 7 0 0 0 [(0, vA G 0)] [] σ Q
  refine R_sipush e_X12_aTenant_0.1 (by decide) ?_
  refine R_iconst e_X12_aTenant_0.2.1 ?_
  refine R_aload_n e_X12_aTenant_0.2.2.1 0 rfl ?_
  refine R_getA 12 0 1 e_X12_aTenant_0.2.2.2.1 f_X12_7 km_0 (fun _ _ => rfl) rm_0_0 (by decide) ?_
  refine R_sipush e_X12_aTenant_0.2.2.2.2.1 (by decide) ?_
  refine R_iald 3598 e_X12_aTenant_0.2.2.2.2.2.1 kma_1 (by decide) ?_
  refine R_imul e_X12_aTenant_0.2.2.2.2.2.2.1 ?_
  refine R_iadd e_X12_aTenant_0.2.2.2.2.2.2.2.1 ?_
  refine R_istore_n (ls2 := [(1, vI (2176 + (5 * (σ 1 2060)))), (0, vA G 0)]) e_X12_aTenant_0.2.2.2.2.2.2.2.2.1 (by decide) rfl ?_
  refine R_aload_n e_X12_aTenant_0.2.2.2.2.2.2.2.2.2 1 rfl ?_
  refine R_iconst e_X12_aTenant_1.1 ?_
  refine R_bipush e_X12_aTenant_1.2.1 (by decide) ?_
  refine R_bipush e_X12_aTenant_1.2.2.1 (by decide) ?_
  obtain ⟨q3, h⟩ := h
  refine R_callV (mc := 0) (ms := 0) (mc' := 0) (ms' := 0) (M' := M_X12_newOne) (d' := 6) (as := [vI 4, vI 6, vI 14]) (st := []) 12 3 e_X12_aTenant_1.2.2.2.1 (kCVof m_X12_newOne l_X12_203) rfl (by decide) km_0 (by decide) (by decide) rfl rfl (by show (0 : Nat) ≤ 8; decide) ?_
  refine Run.mono (P_X12_newOne q3) (fun r s e => ?_)
  obtain ⟨e1, e2⟩ := e
  refine R_eqs (st2 := [vI (kb ((cNew (4) (6) (14) σ).1))]) (σ2 := ((cNew (4) (6) (14) σ).2)) (by rw [e1]; rfl) e2 ?_
  refine R_if_eq 66 e_X12_aTenant_1.2.2.2.2.1 (by decide) (kb_r _) (fun q => ?_) (fun q => ?_)
  · replace h := h.1 (kb_f q)
    refine R_iconst e_X12_aTenant_3.2.2.2.2.2.1 ?_
    exact R_zreturn e_X12_aTenant_3.2.2.2.2.2.2.1 rfl (Or.inl rfl) h
  · replace h := h.2 (kb_t q)
    refine R_aload_n e_X12_aTenant_1.2.2.2.2.2.1 1 rfl ?_
    refine R_iload_n e_X12_aTenant_1.2.2.2.2.2.2.1 0 rfl ?_
    obtain ⟨q6, h⟩ := h
    refine R_callV (mc := 0) (ms := 0) (mc' := 0) (ms' := 0) (M' := M_X12_fieldTo) (d' := 6) (as := [vI (2176 + (5 * (σ 1 2060)))]) (st := []) 12 1 e_X12_aTenant_1.2.2.2.2.2.2.2.1 (kCVof m_X12_fieldTo l_X12_206) rfl (by decide) km_0 (by decide) (by decide) rfl rfl (by show (0 : Nat) ≤ 8; decide) ?_
    refine Run.mono (P_X12_fieldTo q6) (fun r s e => ?_)
    obtain ⟨e1, e2⟩ := e
    refine R_eqs (st2 := [vI (kb ((cFld ((2176 + (5 * (σ 1 2060)))) ((cNew (4) (6) (14) σ).2)).1))]) (σ2 := ((cFld ((2176 + (5 * (σ 1 2060)))) ((cNew (4) (6) (14) σ).2)).2)) (by rw [e1]; rfl) e2 ?_
    refine R_if_eq 66 e_X12_aTenant_1.2.2.2.2.2.2.2.2.1 (by decide) (kb_r _) (fun q => ?_) (fun q => ?_)
    · replace h := h.1 (kb_f q)
      refine R_iconst e_X12_aTenant_3.2.2.2.2.2.1 ?_
      exact R_zreturn e_X12_aTenant_3.2.2.2.2.2.2.1 rfl (Or.inl rfl) h
    · replace h := h.2 (kb_t q)
      refine R_aload_n e_X12_aTenant_1.2.2.2.2.2.2.2.2.2 1 rfl ?_
      refine R_ldcS (i := 28) (-38) e_X12_aTenant_2.1 rfl rfl ?_
      refine R_bipush e_X12_aTenant_2.2.1 (by decide) ?_
      obtain ⟨q9, h⟩ := h
      refine R_callV (mc := 0) (ms := 0) (mc' := 0) (ms' := 0) (M' := M_X12_wantWord) (d' := 5) (as := [vA G (-38), vI 14]) (st := []) 12 2 e_X12_aTenant_2.2.2.1 (kCVof m_X12_wantWord l_X12_195) rfl (by decide) km_0 (by decide) (by decide) rfl rfl (by show (0 : Nat) ≤ 8; decide) ?_
      refine Run.mono (P_X12_wantWord q9) (fun r s e => ?_)
      obtain ⟨e1, e2⟩ := e
      refine R_eqs (st2 := [vI (kb ((cWord (14) ((cFld ((2176 + (5 * (σ 1 2060)))) ((cNew (4) (6) (14) σ).2)).2)).1))]) (σ2 := ((cWord (14) ((cFld ((2176 + (5 * (σ 1 2060)))) ((cNew (4) (6) (14) σ).2)).2)).2)) (by rw [e1]; rfl) e2 ?_
      refine R_if_eq 66 e_X12_aTenant_2.2.2.2.1 (by decide) (kb_r _) (fun q => ?_) (fun q => ?_)
      · replace h := h.1 (kb_f q)
        refine R_iconst e_X12_aTenant_3.2.2.2.2.2.1 ?_
        exact R_zreturn e_X12_aTenant_3.2.2.2.2.2.2.1 rfl (Or.inl rfl) h
      · replace h := h.2 (kb_t q)
        refine R_aload_n e_X12_aTenant_2.2.2.2.2.1 1 rfl ?_
        refine R_bipush e_X12_aTenant_2.2.2.2.2.2.1 (by decide) ?_
        refine R_aload_n e_X12_aTenant_2.2.2.2.2.2.2.1 1 rfl ?_
        refine R_getA 12 0 1 e_X12_aTenant_2.2.2.2.2.2.2.2.1 f_X12_7 km_0 (fun _ _ => rfl) rm_0_0 (by decide) ?_
        refine R_sipush e_X12_aTenant_2.2.2.2.2.2.2.2.2.1 (by decide) ?_
        refine R_iald 3598 e_X12_aTenant_2.2.2.2.2.2.2.2.2.2 kma_1 (by decide) ?_
        refine R_iload_n e_X12_aTenant_3.1 0 rfl ?_
        refine R_iconst e_X12_aTenant_3.2.1 ?_
        refine R_iadd e_X12_aTenant_3.2.2.1 ?_
        obtain ⟨q12, h⟩ := h
        refine R_callV (mc := 0) (ms := 0) (mc' := 0) (ms' := 0) (M' := M_X12_oldOne) (d' := 6) (as := [vI 80, vI (((cWord (14) ((cFld ((2176 + (5 * (σ 1 2060)))) ((cNew (4) (6) (14) σ).2)).2)).2) 1 2058), vI ((2176 + (5 * (σ 1 2060))) + 2)]) (st := []) 12 3 e_X12_aTenant_3.2.2.2.1 (kCVof m_X12_oldOne l_X12_212) rfl (by decide) km_0 (by decide) (by decide) rfl rfl (by show (0 : Nat) ≤ 8; decide) ?_
        refine Run.mono (P_X12_oldOne q12) (fun r s e => ?_)
        obtain ⟨e1, e2⟩ := e
        refine R_eqs (st2 := [vI (kb ((cOld (80) ((((cWord (14) ((cFld ((2176 + (5 * (σ 1 2060)))) ((cNew (4) (6) (14) σ).2)).2)).2) 1 2058)) (((2176 + (5 * (σ 1 2060))) + 2)) ((cWord (14) ((cFld ((2176 + (5 * (σ 1 2060)))) ((cNew (4) (6) (14) σ).2)).2)).2)).1))]) (σ2 := ((cOld (80) ((((cWord (14) ((cFld ((2176 + (5 * (σ 1 2060)))) ((cNew (4) (6) (14) σ).2)).2)).2) 1 2058)) (((2176 + (5 * (σ 1 2060))) + 2)) ((cWord (14) ((cFld ((2176 + (5 * (σ 1 2060)))) ((cNew (4) (6) (14) σ).2)).2)).2)).2)) (by rw [e1]; rfl) e2 ?_
        refine R_if_ne 68 e_X12_aTenant_3.2.2.2.2.1 (by decide) (kb_r _) (fun q => ?_) (fun q => ?_)
        · replace h := h.1 (kb_t q)
          refine R_aload_n e_X12_aTenant_3.2.2.2.2.2.2.2.1 1 rfl ?_
          refine R_getA 12 0 1 e_X12_aTenant_3.2.2.2.2.2.2.2.2.1 f_X12_7 km_0 (fun _ _ => rfl) rm_0_0 (by decide) ?_
          refine R_sipush e_X12_aTenant_3.2.2.2.2.2.2.2.2.2 (by decide) ?_
          refine R_dup2 e_X12_aTenant_4.1 rfl rfl ?_
          refine R_iald 3598 e_X12_aTenant_4.2.1 kma_1 (by decide) ?_
          refine R_iconst e_X12_aTenant_4.2.2.1 ?_
          refine R_iadd e_X12_aTenant_4.2.2.2.1 ?_
          refine R_iast 3598 WM_ok e_X12_aTenant_4.2.2.2.2.1 kma_1 (by decide) ?_
          obtain ⟨m13, e14⟩ : ∃ z : Kmem, z = (kup ((cOld (80) ((((cWord (14) ((cFld ((2176 + (5 * (σ 1 2060)))) ((cNew (4) (6) (14) σ).2)).2)).2) 1 2058)) (((2176 + (5 * (σ 1 2060))) + 2)) ((cWord (14) ((cFld ((2176 + (5 * (σ 1 2060)))) ((cNew (4) (6) (14) σ).2)).2)).2)).2) 1 2060 ((((cOld (80) ((((cWord (14) ((cFld ((2176 + (5 * (σ 1 2060)))) ((cNew (4) (6) (14) σ).2)).2)).2) 1 2058)) (((2176 + (5 * (σ 1 2060))) + 2)) ((cWord (14) ((cFld ((2176 + (5 * (σ 1 2060)))) ((cNew (4) (6) (14) σ).2)).2)).2)).2) 1 2060) + 1)) := ⟨_, rfl⟩
          rw [← e14]
          replace h := h m13 e14
          refine R_iconst e_X12_aTenant_4.2.2.2.2.2.1 ?_
          exact R_zreturn e_X12_aTenant_4.2.2.2.2.2.2 rfl (Or.inr rfl) h
        · replace h := h.2 (kb_f q)
          refine R_iconst e_X12_aTenant_3.2.2.2.2.2.1 ?_
          exact R_zreturn e_X12_aTenant_3.2.2.2.2.2.2.1 rfl (Or.inl rfl) h
