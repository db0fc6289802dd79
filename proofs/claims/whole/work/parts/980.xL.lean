/-! KiteLand$CountyReader.readNewName()Z -/
theorem e_X1_readNewName_0 : decode cX1_readNewName 0 = .ok (.aload_n 0, 1) ∧ decode cX1_readNewName 1 = .ok (.getfield 29, 3) ∧ decode cX1_readNewName 4 = .ok (.invokevirtual 194, 3) ∧ decode cX1_readNewName 7 = .ok (.ifCond .ne 5, 3) ∧ decode cX1_readNewName 10 = .ok (.iconst 0, 1) ∧ decode cX1_readNewName 11 = .ok (.ireturn, 1) ∧ decode cX1_readNewName 12 = .ok (.aload_n 0, 1) ∧ decode cX1_readNewName 13 = .ok (.getfield 33, 3) ∧ decode cX1_readNewName 16 = .ok (.aload_n 0, 1) ∧ decode cX1_readNewName 17 = .ok (.getfield 29, 3) := by decide +kernel
theorem e_X1_readNewName_1 : decode cX1_readNewName 20 = .ok (.getfield 197, 3) ∧ decode cX1_readNewName 23 = .ok (.invokevirtual 209, 3) ∧ decode cX1_readNewName 26 = .ok (.ifCond .eq 12, 3) ∧ decode cX1_readNewName 29 = .ok (.aload_n 0, 1) ∧ decode cX1_readNewName 30 = .ok (.getfield 29, 3) ∧ decode cX1_readNewName 33 = .ok (.iconst 3, 1) ∧ decode cX1_readNewName 34 = .ok (.invokevirtual 97, 3) ∧ decode cX1_readNewName 37 = .ok (.ireturn, 1) ∧ decode cX1_readNewName 38 = .ok (.aload_n 0, 1) ∧ decode cX1_readNewName 39 = .ok (.aload_n 0, 1) := by decide +kernel
theorem e_X1_readNewName_2 : decode cX1_readNewName 40 = .ok (.getfield 29, 3) ∧ decode cX1_readNewName 43 = .ok (.getfield 197, 3) ∧ decode cX1_readNewName 46 = .ok (.putfield 18, 3) ∧ decode cX1_readNewName 49 = .ok (.aload_n 0, 1) ∧ decode cX1_readNewName 50 = .ok (.getfield 29, 3) ∧ decode cX1_readNewName 53 = .ok (.invokevirtual 119, 3) ∧ decode cX1_readNewName 56 = .ok (.iconst 1, 1) ∧ decode cX1_readNewName 57 = .ok (.ireturn, 1) := by decide +kernel
theorem S_X1_readNewName {G : Kg} {σ : Kmem} {Q : Int → Kmem → Prop}  (h : Run G WX M_X6_isNameHere 5 0 0 [vA G 3] σ (fun r1 s2 => (rI r1) ∧ ((r1 ≠ 0 → Run G WX M_X0_hasName 1 0 0 [vA G 31, vL (s2 3 6)] s2 (fun r4 s5 => (rI r4) ∧ ((r4 = 0 → Run G WX M_X6_next 1 0 0 [vA G 3] (kup s5 57 4 (s5 3 6)) (fun r7 s8 => Q 1 s8)) ∧ (r4 ≠ 0 → (rI (s5 3 2)) ∧ Q 0 (xF s5 (3)))))) ∧ (r1 = 0 → Q 0 s2)))) : Run G WX M_X1_readNewName 6 0 0 [vA G 57] σ Q := by
  refine Run.of (by decide +kernel) (by show (1 : Nat) ≤ 1; decide) ?_
  show Ex G WX M_X1_readNewName 6 0 0 0 [(0, vA G 57)] [] σ Q
  refine R_aload_n e_X1_readNewName_0.1 0 rfl ?_
  refine R_getA 1 0 3 e_X1_readNewName_0.2.1 f_X1_29 kx_57 (fun _ _ => rfl) rx_57_0 (by decide) ?_
  refine R_callV (mc := 0) (ms := 0) (mc' := 0) (ms' := 0) (M' := M_X6_isNameHere) (d' := 5) (as := []) (st := []) 6 0 e_X1_readNewName_0.2.2.1 (kCVof m_X6_isNameHere l_X1_194) rfl (by decide) kx_3 (by decide) (by decide) rfl rfl (by show (0 : Nat) ≤ 8; decide) ?_
  refine Run.mono h (fun r1 s2 h => ?_)
  refine R_eqs (st2 := [vI r1]) rfl rfl ?_
  obtain ⟨q3, h⟩ := h
  refine R_if_ne 12 e_X1_readNewName_0.2.2.2.1 (by decide) q3  (fun q => ?_) (fun q => ?_)
  · replace h := h.1 q
    refine R_aload_n e_X1_readNewName_0.2.2.2.2.2.2.1 0 rfl ?_
    refine R_getA 1 1 31 e_X1_readNewName_0.2.2.2.2.2.2.2.1 f_X1_33 kx_57 (fun _ _ => rfl) rx_57_1 (by decide) ?_
    refine R_aload_n e_X1_readNewName_0.2.2.2.2.2.2.2.2.1 0 rfl ?_
    refine R_getA 1 0 3 e_X1_readNewName_0.2.2.2.2.2.2.2.2.2 f_X1_29 kx_57 (fun _ _ => rfl) rx_57_0 (by decide) ?_
    refine R_getL 6 6 6 e_X1_readNewName_1.1 f_X1_197 kx_3 (fun _ _ => rfl) rfl ?_
    refine R_callV (mc := 0) (ms := 0) (mc' := 0) (ms' := 0) (M' := M_X0_hasName) (d' := 1) (as := [vL (s2 3 6)]) (st := []) 0 1 e_X1_readNewName_1.2.1 (kCVof m_X0_hasName l_X1_209) rfl (by decide) (kC_self isC_31) (by decide) (by decide) rfl rfl (by show (0 : Nat) ≤ 8; decide) ?_
    refine Run.mono h (fun r4 s5 h => ?_)
    refine R_eqs (st2 := [vI r4]) rfl rfl ?_
    obtain ⟨q6, h⟩ := h
    refine R_if_eq 38 e_X1_readNewName_1.2.2.1 (by decide) q6  (fun q => ?_) (fun q => ?_)
    · replace h := h.1 q
      refine R_aload_n e_X1_readNewName_1.2.2.2.2.2.2.2.2.1 0 rfl ?_
      refine R_aload_n e_X1_readNewName_1.2.2.2.2.2.2.2.2.2 0 rfl ?_
      refine R_getA 1 0 3 e_X1_readNewName_2.1 f_X1_29 kx_57 (fun _ _ => rfl) rx_57_0 (by decide) ?_
      refine R_getL 6 6 6 e_X1_readNewName_2.2.1 f_X1_197 kx_3 (fun _ _ => rfl) rfl ?_
      refine R_putL 1 4 4 WX_ok e_X1_readNewName_2.2.2.1 f_X1_18 kx_57 rfl rfl rfl ?_
      refine R_aload_n e_X1_readNewName_2.2.2.2.1 0 rfl ?_
      refine R_getA 1 0 3 e_X1_readNewName_2.2.2.2.2.1 f_X1_29 kx_57 (fun _ _ => rfl) rx_57_0 (by decide) ?_
      refine R_callV (mc := 0) (ms := 0) (mc' := 0) (ms' := 0) (M' := M_X6_next) (d' := 1) (as := []) (st := []) 6 0 e_X1_readNewName_2.2.2.2.2.2.1 (kCVof m_X6_next l_X1_119) rfl (by decide) kx_3 (by decide) (by decide) rfl rfl (by show (0 : Nat) ≤ 8; decide) ?_
      refine Run.mono h (fun r7 s8 h => ?_)
      refine R_eqs (st2 := []) rfl rfl ?_
      refine R_iconst e_X1_readNewName_2.2.2.2.2.2.2.1 ?_
      exact R_zreturn e_X1_readNewName_2.2.2.2.2.2.2.2 rfl (Or.inr rfl) h
    · replace h := h.2 q
      refine R_aload_n e_X1_readNewName_1.2.2.2.1 0 rfl ?_
      refine R_getA 1 0 3 e_X1_readNewName_1.2.2.2.2.1 f_X1_29 kx_57 (fun _ _ => rfl) rx_57_0 (by decide) ?_
      refine R_iconst e_X1_readNewName_1.2.2.2.2.2.1 ?_
      obtain ⟨q11, h⟩ := h
      refine R_callV (mc := 0) (ms := 0) (mc' := 0) (ms' := 0) (M' := M_X6_fail) (d' := 0) (as := [vI 3]) (st := []) 6 1 e_X1_readNewName_1.2.2.2.2.2.2.1 (kCVof m_X6_fail l_X1_97) rfl (by decide) kx_3 (by decide) (by decide) rfl rfl (by show (0 : Nat) ≤ 8; decide) ?_
      refine Run.mono (P_X6_fail q11) (fun r s e => ?_)
      obtain ⟨e1, e2⟩ := e
      refine R_eqs (st2 := [vI 0]) (σ2 := (xF s5 (3))) (by rw [e1]; rfl) e2 ?_
      exact R_zreturn e_X1_readNewName_1.2.2.2.2.2.2.2.1 rfl (Or.inl rfl) h
  · replace h := h.2 q
    refine R_iconst e_X1_readNewName_0.2.2.2.2.1 ?_
    exact R_zreturn e_X1_readNewName_0.2.2.2.2.2.1 rfl (Or.inl rfl) h
/-! KiteLand$CountyReader.readField()Z -/
theorem e_X1_readField_0 : decode cX1_readField 0 = .ok (.aload_n 0, 1) ∧ decode cX1_readField 1 = .ok (.getfield 29, 3) ∧ decode cX1_readField 4 = .ok (.ldc 213, 2) ∧ decode cX1_readField 6 = .ok (.invokevirtual 101, 3) ∧ decode cX1_readField 9 = .ok (.ifCond .eq 23, 3) ∧ decode cX1_readField 12 = .ok (.aload_n 0, 1) ∧ decode cX1_readField 13 = .ok (.getfield 29, 3) ∧ decode cX1_readField 16 = .ok (.iconst 0, 1) ∧ decode cX1_readField 17 = .ok (.aload_n 0, 1) ∧ decode cX1_readField 18 = .ok (.getfield 33, 3) := by decide +kernel
theorem e_X1_readField_1 : decode cX1_readField 21 = .ok (.getfield 111, 3) ∧ decode cX1_readField 24 = .ok (.iconst 1, 1) ∧ decode cX1_readField 25 = .ok (.isub, 1) ∧ decode cX1_readField 26 = .ok (.invokevirtual 104, 3) ∧ decode cX1_readField 29 = .ok (.ifCond .ne 5, 3) ∧ decode cX1_readField 32 = .ok (.iconst 0, 1) ∧ decode cX1_readField 33 = .ok (.ireturn, 1) ∧ decode cX1_readField 34 = .ok (.aload_n 0, 1) ∧ decode cX1_readField 35 = .ok (.aload_n 0, 1) ∧ decode cX1_readField 36 = .ok (.getfield 29, 3) := by decide +kernel
theorem e_X1_readField_2 : decode cX1_readField 39 = .ok (.getfield 108, 3) ∧ decode cX1_readField 42 = .ok (.putfield 22, 3) ∧ decode cX1_readField 45 = .ok (.aload_n 0, 1) ∧ decode cX1_readField 46 = .ok (.getfield 29, 3) ∧ decode cX1_readField 49 = .ok (.iconst 0, 1) ∧ decode cX1_readField 50 = .ok (.aload_n 0, 1) ∧ decode cX1_readField 51 = .ok (.getfield 33, 3) ∧ decode cX1_readField 54 = .ok (.getfield 116, 3) ∧ decode cX1_readField 57 = .ok (.iconst 1, 1) ∧ decode cX1_readField 58 = .ok (.isub, 1) := by decide +kernel
theorem e_X1_readField_3 : decode cX1_readField 59 = .ok (.invokevirtual 104, 3) ∧ decode cX1_readField 62 = .ok (.ifCond .ne 5, 3) ∧ decode cX1_readField 65 = .ok (.iconst 0, 1) ∧ decode cX1_readField 66 = .ok (.ireturn, 1) ∧ decode cX1_readField 67 = .ok (.aload_n 0, 1) ∧ decode cX1_readField 68 = .ok (.aload_n 0, 1) ∧ decode cX1_readField 69 = .ok (.getfield 29, 3) ∧ decode cX1_readField 72 = .ok (.getfield 108, 3) ∧ decode cX1_readField 75 = .ok (.putfield 26, 3) ∧ decode cX1_readField 78 = .ok (.iconst 1, 1) := by decide +kernel
theorem e_X1_readField_4 : decode cX1_readField 79 = .ok (.ireturn, 1) := by decide +kernel
theorem S_X1_readField {G : Kg} {σ : Kmem} {Q : Int → Kmem → Prop}  (h : Run G WX M_X6_takeWord 5 0 0 [vA G 3, vA G (-17)] σ (fun r1 s2 => (rI r1) ∧ ((r1 = 0 → Q 0 s2) ∧ (r1 ≠ 0 → Run G WX M_X6_takeNumber 2 0 0 [vA G 3, vI 0, vI ((s2 31 0) - 1)] s2 (fun r4 s5 => (rI r4) ∧ ((r4 ≠ 0 → Run G WX M_X6_takeNumber 2 0 0 [vA G 3, vI 0, vI (((kup s5 57 5 (s5 3 7)) 31 1) - 1)] (kup s5 57 5 (s5 3 7)) (fun r7 s8 => (rI r7) ∧ ((r7 ≠ 0 → Q 1 (kup s8 57 6 (s8 3 7))) ∧ (r7 = 0 → Q 0 s8)))) ∧ (r4 = 0 → Q 0 s5))))))) : Run G WX M_X1_readField 6 0 0 [vA G 57] σ Q := by
  refine Run.of (by decide +kernel) (by show (1 : Nat) ≤ 1; decide) ?_
  show Ex G WX M_X1_readField 6 0 0 0 [(0, vA G 57)] [] σ Q
  refine R_aload_n e_X1_readField_0.1 0 rfl ?_
  refine R_getA 1 0 3 e_X1_readField_0.2.1 f_X1_29 kx_57 (fun _ _ => rfl) rx_57_0 (by decide) ?_
  refine R_ldcS (i := 7) (-17) e_X1_readField_0.2.2.1 rfl rfl ?_
  refine R_callV (mc := 0) (ms := 0) (mc' := 0) (ms' := 0) (M' := M_X6_takeWord) (d' := 5) (as := [vA G (-17)]) (st := []) 6 1 e_X1_readField_0.2.2.2.1 (kCVof m_X6_takeWord l_X1_101) rfl (by decide) kx_3 (by decide) (by decide) rfl rfl (by show (0 : Nat) ≤ 8; decide) ?_
  refine Run.mono h (fun r1 s2 h => ?_)
  refine R_eqs (st2 := [vI r1]) rfl rfl ?_
  obtain ⟨q3, h⟩ := h
  refine R_if_eq 32 e_X1_readField_0.2.2.2.2.1 (by decide) q3  (fun q => ?_) (fun q => ?_)
  · replace h := h.1 q
    refine R_iconst e_X1_readField_1.2.2.2.2.2.1 ?_
    exact R_zreturn e_X1_readField_1.2.2.2.2.2.2.1 rfl (Or.inl rfl) h
  · replace h := h.2 q
    refine R_aload_n e_X1_readField_0.2.2.2.2.2.1 0 rfl ?_
    refine R_getA 1 0 3 e_X1_readField_0.2.2.2.2.2.2.1 f_X1_29 kx_57 (fun _ _ => rfl) rx_57_0 (by decide) ?_
    refine R_iconst e_X1_readField_0.2.2.2.2.2.2.2.1 ?_
    refine R_aload_n e_X1_readField_0.2.2.2.2.2.2.2.2.1 0 rfl ?_
    refine R_getA 1 1 31 e_X1_readField_0.2.2.2.2.2.2.2.2.2 f_X1_33 kx_57 (fun _ _ => rfl) rx_57_1 (by decide) ?_
    refine R_getI 0 0 0 e_X1_readField_1.1 f_X1_111 (kC_self isC_31) (fun _ _ => rfl) rfl ?_
    refine R_iconst e_X1_readField_1.2.1 ?_
    refine R_isub e_X1_readField_1.2.2.1 ?_
    refine R_callV (mc := 0) (ms := 0) (mc' := 0) (ms' := 0) (M' := M_X6_takeNumber) (d' := 2) (as := [vI 0, vI ((s2 31 0) - 1)]) (st := []) 6 2 e_X1_readField_1.2.2.2.1 (kCVof m_X6_takeNumber l_X1_104) rfl (by decide) kx_3 (by decide) (by decide) rfl rfl (by show (0 : Nat) ≤ 8; decide) ?_
    refine Run.mono h (fun r4 s5 h => ?_)
    refine R_eqs (st2 := [vI r4]) rfl rfl ?_
    obtain ⟨q6, h⟩ := h
    refine R_if_ne 34 e_X1_readField_1.2.2.2.2.1 (by decide) q6  (fun q => ?_) (fun q => ?_)
    · replace h := h.1 q
      refine R_aload_n e_X1_readField_1.2.2.2.2.2.2.2.1 0 rfl ?_
      refine R_aload_n e_X1_readField_1.2.2.2.2.2.2.2.2.1 0 rfl ?_
      refine R_getA 1 0 3 e_X1_readField_1.2.2.2.2.2.2.2.2.2 f_X1_29 kx_57 (fun _ _ => rfl) rx_57_0 (by decide) ?_
      refine R_getI 6 7 7 e_X1_readField_2.1 f_X1_108 kx_3 (fun _ _ => rfl) rfl ?_
      refine R_putI 1 5 5 WX_ok e_X1_readField_2.2.1 f_X1_22 kx_57 rfl rfl rfl ?_
      refine R_aload_n e_X1_readField_2.2.2.1 0 rfl ?_
      refine R_getA 1 0 3 e_X1_readField_2.2.2.2.1 f_X1_29 kx_57 (fun _ _ => rfl) rx_57_0 (by decide) ?_
      refine R_iconst e_X1_readField_2.2.2.2.2.1 ?_
      refine R_aload_n e_X1_readField_2.2.2.2.2.2.1 0 rfl ?_
      refine R_getA 1 1 31 e_X1_readField_2.2.2.2.2.2.2.1 f_X1_33 kx_57 (fun _ _ => rfl) rx_57_1 (by decide) ?_
      refine R_getI 0 1 1 e_X1_readField_2.2.2.2.2.2.2.2.1 f_X1_116 (kC_self isC_31) (fun _ _ => rfl) rfl ?_
      refine R_iconst e_X1_readField_2.2.2.2.2.2.2.2.2.1 ?_
      refine R_isub e_X1_readField_2.2.2.2.2.2.2.2.2.2 ?_
      refine R_callV (mc := 0) (ms := 0) (mc' := 0) (ms' := 0) (M' := M_X6_takeNumber) (d' := 2) (as := [vI 0, vI (((kup s5 57 5 (s5 3 7)) 31 1) - 1)]) (st := []) 6 2 e_X1_readField_3.1 (kCVof m_X6_takeNumber l_X1_104) rfl (by decide) kx_3 (by decide) (by decide) rfl rfl (by show (0 : Nat) ≤ 8; decide) ?_
      refine Run.mono h (fun r7 s8 h => ?_)
      refine R_eqs (st2 := [vI r7]) rfl rfl ?_
      obtain ⟨q9, h⟩ := h
      refine R_if_ne 67 e_X1_readField_3.2.1 (by decide) q9  (fun q => ?_) (fun q => ?_)
      · replace h := h.1 q
        refine R_aload_n e_X1_readField_3.2.2.2.2.1 0 rfl ?_
        refine R_aload_n e_X1_readField_3.2.2.2.2.2.1 0 rfl ?_
        refine R_getA 1 0 3 e_X1_readField_3.2.2.2.2.2.2.1 f_X1_29 kx_57 (fun _ _ => rfl) rx_57_0 (by decide) ?_
        refine R_getI 6 7 7 e_X1_readField_3.2.2.2.2.2.2.2.1 f_X1_108 kx_3 (fun _ _ => rfl) rfl ?_
        refine R_putI 1 6 6 WX_ok e_X1_readField_3.2.2.2.2.2.2.2.2.1 f_X1_26 kx_57 rfl rfl rfl ?_
        refine R_iconst e_X1_readField_3.2.2.2.2.2.2.2.2.2 ?_
        exact R_zreturn e_X1_readField_4 rfl (Or.inr rfl) h
      · replace h := h.2 q
        refine R_iconst e_X1_readField_3.2.2.1 ?_
        exact R_zreturn e_X1_readField_3.2.2.2.1 rfl (Or.inl rfl) h
    · replace h := h.2 q
      refine R_iconst e_X1_readField_1.2.2.2.2.2.1 ?_
      exact R_zreturn e_X1_readField_1.2.2.2.2.2.2.1 rfl (Or.inl rfl) h
/-! KiteLand$CountyReader.readTrait(Ljava/lang/String;I)Z -/
theorem e_X1_readTrait_0 : decode cX1_readTrait 0 = .ok (.aload_n 0, 1) ∧ decode cX1_readTrait 1 = .ok (.getfield 29, 3) ∧ decode cX1_readTrait 4 = .ok (.getfield 172, 3) ∧ decode cX1_readTrait 7 = .ok (.ifCond .ne 14, 3) ∧ decode cX1_readTrait 10 = .ok (.aload_n 0, 1) ∧ decode cX1_readTrait 11 = .ok (.getfield 29, 3) ∧ decode cX1_readTrait 14 = .ok (.aload_n 1, 1) ∧ decode cX1_readTrait 15 = .ok (.invokevirtual 63, 3) ∧ decode cX1_readTrait 18 = .ok (.ifCond .ne 5, 3) ∧ decode cX1_readTrait 21 = .ok (.iconst 0, 1) := by decide +kernel
theorem e_X1_readTrait_1 : decode cX1_readTrait 22 = .ok (.ireturn, 1) ∧ decode cX1_readTrait 23 = .ok (.aload_n 0, 1) ∧ decode cX1_readTrait 24 = .ok (.getfield 29, 3) ∧ decode cX1_readTrait 27 = .ok (.invokevirtual 119, 3) ∧ decode cX1_readTrait 30 = .ok (.aload_n 0, 1) ∧ decode cX1_readTrait 31 = .ok (.getfield 29, 3) ∧ decode cX1_readTrait 34 = .ok (.iconst 0, 1) ∧ decode cX1_readTrait 35 = .ok (.iload_n 2, 1) ∧ decode cX1_readTrait 36 = .ok (.invokevirtual 104, 3) ∧ decode cX1_readTrait 39 = .ok (.ireturn, 1) := by decide +kernel
theorem S_X1_readTrait {G : Kg} {σ : Kmem} {Q : Int → Kmem → Prop} {i : Nat} {si : String × Nat × String × List Int32} (hi : kStrs[i]? = some si) {l2 : Int}  (h : (rI (σ 3 8)) ∧ ((σ 3 8 ≠ 0 → Q 0 σ) ∧ (σ 3 8 = 0 → (xT0 σ ∧ isStr ((-((10 + i : Nat) : Int)))) ∧ (((xW σ ((-((10 + i : Nat) : Int)))) → Run G WX M_X6_next 1 0 0 [vA G 3] σ (fun r5 s6 => Run G WX M_X6_takeNumber 2 0 0 [vA G 3, vI 0, vI l2] s6 (fun r7 s8 => (r7 = 0 ∨ r7 = 1) ∧ Q r7 s8))) ∧ (¬ (xW σ ((-((10 + i : Nat) : Int)))) → Q 0 σ))))) : Run G WX M_X1_readTrait 5 0 0 [vA G 57, vA G (-((10 + i : Nat) : Int)), vI l2] σ Q := by
  refine Run.of (by decide +kernel) (by show (3 : Nat) ≤ 3; decide) ?_
  show Ex G WX M_X1_readTrait 5 0 0 0 [(0, vA G 57), (1, vA G (-((10 + i : Nat) : Int))), (2, vI l2)] [] σ Q
  refine R_aload_n e_X1_readTrait_0.1 0 rfl ?_
  refine R_getA 1 0 3 e_X1_readTrait_0.2.1 f_X1_29 kx_57 (fun _ _ => rfl) rx_57_0 (by decide) ?_
  refine R_getI 6 8 8 e_X1_readTrait_0.2.2.1 f_X1_172 kx_3 (fun _ _ => rfl) rfl ?_
  obtain ⟨q1, h⟩ := h
  refine R_if_ne 21 e_X1_readTrait_0.2.2.2.1 (by decide) q1  (fun q => ?_) (fun q => ?_)
  · replace h := h.1 q
    refine R_iconst e_X1_readTrait_0.2.2.2.2.2.2.2.2.2 ?_
    exact R_zreturn e_X1_readTrait_1.1 rfl (Or.inl rfl) h
  · replace h := h.2 q
    refine R_aload_n e_X1_readTrait_0.2.2.2.2.1 0 rfl ?_
    refine R_getA 1 0 3 e_X1_readTrait_0.2.2.2.2.2.1 f_X1_29 kx_57 (fun _ _ => rfl) rx_57_0 (by decide) ?_
    refine R_aload_n e_X1_readTrait_0.2.2.2.2.2.2.1 1 rfl ?_
    obtain ⟨q4, h⟩ := h
    refine R_callV (mc := 0) (ms := 0) (mc' := 0) (ms' := 0) (M' := M_X6_isWord) (d' := 4) (as := [vA G (-((10 + i : Nat) : Int))]) (st := []) 6 1 e_X1_readTrait_0.2.2.2.2.2.2.2.1 (kCVof m_X6_isWord l_X1_63) rfl (by decide) kx_3 (by decide) (by decide) rfl rfl (by show (0 : Nat) ≤ 8; decide) ?_
    refine Run.mono (P_X6_isWord q4) (fun r s e => ?_)
    obtain ⟨e1, e2⟩ := e
    refine R_eqs (st2 := [vI (kb (xW σ ((-((10 + i : Nat) : Int)))))]) (σ2 := σ) (by rw [e1]; rfl) e2 ?_
    refine R_if_ne 23 e_X1_readTrait_0.2.2.2.2.2.2.2.2.1 (by decide) (kb_r _) (fun q => ?_) (fun q => ?_)
    · replace h := h.1 (kb_t q)
      refine R_aload_n e_X1_readTrait_1.2.1 0 rfl ?_
      refine R_getA 1 0 3 e_X1_readTrait_1.2.2.1 f_X1_29 kx_57 (fun _ _ => rfl) rx_57_0 (by decide) ?_
      refine R_callV (mc := 0) (ms := 0) (mc' := 0) (ms' := 0) (M' := M_X6_next) (d' := 1) (as := []) (st := []) 6 0 e_X1_readTrait_1.2.2.2.1 (kCVof m_X6_next l_X1_119) rfl (by decide) kx_3 (by decide) (by decide) rfl rfl (by show (0 : Nat) ≤ 8; decide) ?_
      refine Run.mono h (fun r5 s6 h => ?_)
      refine R_eqs (st2 := []) rfl rfl ?_
      refine R_aload_n e_X1_readTrait_1.2.2.2.2.1 0 rfl ?_
      refine R_getA 1 0 3 e_X1_readTrait_1.2.2.2.2.2.1 f_X1_29 kx_57 (fun _ _ => rfl) rx_57_0 (by decide) ?_
      refine R_iconst e_X1_readTrait_1.2.2.2.2.2.2.1 ?_
      refine R_iload_n e_X1_readTrait_1.2.2.2.2.2.2.2.1 2 rfl ?_
      refine R_callV (mc := 0) (ms := 0) (mc' := 0) (ms' := 0) (M' := M_X6_takeNumber) (d' := 2) (as := [vI 0, vI l2]) (st := []) 6 2 e_X1_readTrait_1.2.2.2.2.2.2.2.2.1 (kCVof m_X6_takeNumber l_X1_104) rfl (by decide) kx_3 (by decide) (by decide) rfl rfl (by show (0 : Nat) ≤ 8; decide) ?_
      refine Run.mono h (fun r7 s8 h => ?_)
      refine R_eqs (st2 := [vI r7]) rfl rfl ?_
      obtain ⟨q9, h⟩ := h
      exact R_zreturn e_X1_readTrait_1.2.2.2.2.2.2.2.2.2 rfl q9 h
    · replace h := h.2 (kb_f q)
      refine R_iconst e_X1_readTrait_0.2.2.2.2.2.2.2.2.2 ?_
      exact R_zreturn e_X1_readTrait_1.1 rfl (Or.inl rfl) h
/-! KiteLand$CountyReader.readWind()Z -/
theorem e_X1_readWind_0 : decode cX1_readWind 0 = .ok (.aload_n 0, 1) ∧ decode cX1_readWind 1 = .ok (.getfield 29, 3) ∧ decode cX1_readWind 4 = .ok (.invokevirtual 119, 3) ∧ decode cX1_readWind 7 = .ok (.aload_n 0, 1) ∧ decode cX1_readWind 8 = .ok (.getfield 29, 3) ∧ decode cX1_readWind 11 = .ok (.iconst 0, 1) ∧ decode cX1_readWind 12 = .ok (.bipush 11, 2) ∧ decode cX1_readWind 14 = .ok (.invokevirtual 104, 3) ∧ decode cX1_readWind 17 = .ok (.ifCond .ne 5, 3) ∧ decode cX1_readWind 20 = .ok (.iconst 0, 1) := by decide +kernel
theorem e_X1_readWind_1 : decode cX1_readWind 21 = .ok (.ireturn, 1) ∧ decode cX1_readWind 22 = .ok (.aload_n 0, 1) ∧ decode cX1_readWind 23 = .ok (.getfield 29, 3) ∧ decode cX1_readWind 26 = .ok (.getfield 108, 3) ∧ decode cX1_readWind 29 = .ok (.istore_n 1, 1) ∧ decode cX1_readWind 30 = .ok (.aload_n 0, 1) ∧ decode cX1_readWind 31 = .ok (.getfield 29, 3) ∧ decode cX1_readWind 34 = .ok (.iconst 0, 1) ∧ decode cX1_readWind 35 = .ok (.bipush 7, 2) ∧ decode cX1_readWind 37 = .ok (.invokevirtual 104, 3) := by decide +kernel
theorem e_X1_readWind_2 : decode cX1_readWind 40 = .ok (.ifCond .ne 5, 3) ∧ decode cX1_readWind 43 = .ok (.iconst 0, 1) ∧ decode cX1_readWind 44 = .ok (.ireturn, 1) ∧ decode cX1_readWind 45 = .ok (.aload_n 0, 1) ∧ decode cX1_readWind 46 = .ok (.getfield 33, 3) ∧ decode cX1_readWind 49 = .ok (.getfield 122, 3) ∧ decode cX1_readWind 52 = .ok (.iload_n 1, 1) ∧ decode cX1_readWind 53 = .ok (.aload_n 0, 1) ∧ decode cX1_readWind 54 = .ok (.getfield 29, 3) ∧ decode cX1_readWind 57 = .ok (.getfield 108, 3) := by decide +kernel
theorem e_X1_readWind_3 : decode cX1_readWind 60 = .ok (.iastore, 1) ∧ decode cX1_readWind 61 = .ok (.aload_n 0, 1) ∧ decode cX1_readWind 62 = .ok (.getfield 29, 3) ∧ decode cX1_readWind 65 = .ok (.iconst 0, 1) ∧ decode cX1_readWind 66 = .ok (.iconst 3, 1) ∧ decode cX1_readWind 67 = .ok (.invokevirtual 104, 3) ∧ decode cX1_readWind 70 = .ok (.ifCond .ne 5, 3) ∧ decode cX1_readWind 73 = .ok (.iconst 0, 1) ∧ decode cX1_readWind 74 = .ok (.ireturn, 1) ∧ decode cX1_readWind 75 = .ok (.aload_n 0, 1) := by decide +kernel
theorem e_X1_readWind_4 : decode cX1_readWind 76 = .ok (.getfield 33, 3) ∧ decode cX1_readWind 79 = .ok (.getfield 126, 3) ∧ decode cX1_readWind 82 = .ok (.iload_n 1, 1) ∧ decode cX1_readWind 83 = .ok (.aload_n 0, 1) ∧ decode cX1_readWind 84 = .ok (.getfield 29, 3) ∧ decode cX1_readWind 87 = .ok (.getfield 108, 3) ∧ decode cX1_readWind 90 = .ok (.iastore, 1) ∧ decode cX1_readWind 91 = .ok (.iconst 1, 1) ∧ decode cX1_readWind 92 = .ok (.ireturn, 1) := by decide +kernel
theorem S_X1_readWind {G : Kg} {σ : Kmem} {Q : Int → Kmem → Prop}  (h : Run G WX M_X6_next 1 0 0 [vA G 3] σ (fun r1 s2 => Run G WX M_X6_takeNumber 2 0 0 [vA G 3, vI 0, vI 11] s2 (fun r3 s4 => (rI r3) ∧ ((r3 ≠ 0 → Run G WX M_X6_takeNumber 2 0 0 [vA G 3, vI 0, vI 7] s4 (fun r6 s7 => (rI r6) ∧ ((r6 ≠ 0 → (0 ≤ s4 3 7 ∧ s4 3 7 < 12) ∧ Run G WX M_X6_takeNumber 2 0 0 [vA G 3, vI 0, vI 3] (kup s7 (31 + 1) (s4 3 7) (s7 3 7)) (fun r10 s11 => (rI r10) ∧ ((r10 ≠ 0 → (0 ≤ s4 3 7 ∧ s4 3 7 < 12) ∧ Q 1 (kup s11 (31 + 2) (s4 3 7) (s11 3 7))) ∧ (r10 = 0 → Q 0 s11)))) ∧ (r6 = 0 → Q 0 s7)))) ∧ (r3 = 0 → Q 0 s4))))) : Run G WX M_X1_readWind 3 0 0 [vA G 57] σ Q := by
  refine Run.of (by decide +kernel) (by show (1 : Nat) ≤ 2; decide) ?_
  show Ex G WX M_X1_readWind 3 0 0 0 [(0, vA G 57)] [] σ Q
  refine R_aload_n e_X1_readWind_0.1 0 rfl ?_
  refine R_getA 1 0 3 e_X1_readWind_0.2.1 f_X1_29 kx_57 (fun _ _ => rfl) rx_57_0 (by decide) ?_
  refine R_callV (mc := 0) (ms := 0) (mc' := 0) (ms' := 0) (M' := M_X6_next) (d' := 1) (as := []) (st := []) 6 0 e_X1_readWind_0.2.2.1 (kCVof m_X6_next l_X1_119) rfl (by decide) kx_3 (by decide) (by decide) rfl rfl (by show (0 : Nat) ≤ 8; decide) ?_
  refine Run.mono h (fun r1 s2 h => ?_)
  refine R_eqs (st2 := []) rfl rfl ?_
  refine R_aload_n e_X1_readWind_0.2.2.2.1 0 rfl ?_
  refine R_getA 1 0 3 e_X1_readWind_0.2.2.2.2.1 f_X1_29 kx_57 (fun _ _ => rfl) rx_57_0 (by decide) ?_
  refine R_iconst e_X1_readWind_0.2.2.2.2.2.1 ?_
  refine R_bipush e_X1_readWind_0.2.2.2.2.2.2.1 (by decide) ?_
  refine R_callV (mc := 0) (ms := 0) (mc' := 0) (ms' := 0) (M' := M_X6_takeNumber) (d' := 2) (as := [vI 0, vI 11]) (st := []) 6 2 e_X1_readWind_0.2.2.2.2.2.2.2.1 (kCVof m_X6_takeNumber l_X1_104) rfl (by decide) kx_3 (by decide) (by decide) rfl rfl (by show (0 : Nat) ≤ 8; decide) ?_
  refine Run.mono h (fun r3 s4 h => ?_)
  refine R_eqs (st2 := [vI r3]) rfl rfl ?_
  obtain ⟨q5, h⟩ := h
  refine R_if_ne 22 e_X1_readWind_0.2.2.2.2.2.2.2.2.1 (by decide) q5  (fun q => ?_) (fun q => ?_)
  · replace h := h.1 q
    refine R_aload_n e_X1_readWind_1.2.1 0 rfl ?_
    refine R_getA 1 0 3 e_X1_readWind_1.2.2.1 f_X1_29 kx_57 (fun _ _ => rfl) rx_57_0 (by decide) ?_
    refine R_getI 6 7 7 e_X1_readWind_1.2.2.2.1 f_X1_108 kx_3 (fun _ _ => rfl) rfl ?_
    refine R_istore_n (ls2 := [(1, vI (s4 3 7)), (0, vA G 57)]) e_X1_readWind_1.2.2.2.2.1 (by decide) rfl ?_
    refine R_aload_n e_X1_readWind_1.2.2.2.2.2.1 1 rfl ?_
    refine R_getA 1 0 3 e_X1_readWind_1.2.2.2.2.2.2.1 f_X1_29 kx_57 (fun _ _ => rfl) rx_57_0 (by decide) ?_
    refine R_iconst e_X1_readWind_1.2.2.2.2.2.2.2.1 ?_
    refine R_bipush e_X1_readWind_1.2.2.2.2.2.2.2.2.1 (by decide) ?_
    refine R_callV (mc := 0) (ms := 0) (mc' := 0) (ms' := 0) (M' := M_X6_takeNumber) (d' := 2) (as := [vI 0, vI 7]) (st := []) 6 2 e_X1_readWind_1.2.2.2.2.2.2.2.2.2 (kCVof m_X6_takeNumber l_X1_104) rfl (by decide) kx_3 (by decide) (by decide) rfl rfl (by show (0 : Nat) ≤ 8; decide) ?_
    refine Run.mono h (fun r6 s7 h => ?_)
    refine R_eqs (st2 := [vI r6]) rfl rfl ?_
    obtain ⟨q8, h⟩ := h
    refine R_if_ne 45 e_X1_readWind_2.1 (by decide) q8  (fun q => ?_) (fun q => ?_)
    · replace h := h.1 q
      refine R_aload_n e_X1_readWind_2.2.2.2.1 1 rfl ?_
      refine R_getA 1 1 31 e_X1_readWind_2.2.2.2.2.1 f_X1_33 kx_57 (fun _ _ => rfl) rx_57_1 (by decide) ?_
      refine R_getA 0 8 (31 + 1) e_X1_readWind_2.2.2.2.2.2.1 f_X1_122 (kC_self isC_31) (fun _ _ => rfl) (kC_r8 isC_31) (kC_n1 isC_31) ?_
      refine R_iload_n e_X1_readWind_2.2.2.2.2.2.2.1 0 rfl ?_
      refine R_aload_n e_X1_readWind_2.2.2.2.2.2.2.2.1 1 rfl ?_
      refine R_getA 1 0 3 e_X1_readWind_2.2.2.2.2.2.2.2.2.1 f_X1_29 kx_57 (fun _ _ => rfl) rx_57_0 (by decide) ?_
      refine R_getI 6 7 7 e_X1_readWind_2.2.2.2.2.2.2.2.2.2 f_X1_108 kx_3 (fun _ _ => rfl) rfl ?_
      obtain ⟨q9, h⟩ := h
      refine R_iast 12 WX_ok e_X1_readWind_3.1 (kC_dirs isC_31) q9 ?_
      refine R_aload_n e_X1_readWind_3.2.1 1 rfl ?_
      refine R_getA 1 0 3 e_X1_readWind_3.2.2.1 f_X1_29 kx_57 (fun _ _ => rfl) rx_57_0 (by decide) ?_
      refine R_iconst e_X1_readWind_3.2.2.2.1 ?_
      refine R_iconst e_X1_readWind_3.2.2.2.2.1 ?_
      refine R_callV (mc := 0) (ms := 0) (mc' := 0) (ms' := 0) (M' := M_X6_takeNumber) (d' := 2) (as := [vI 0, vI 3]) (st := []) 6 2 e_X1_readWind_3.2.2.2.2.2.1 (kCVof m_X6_takeNumber l_X1_104) rfl (by decide) kx_3 (by decide) (by decide) rfl rfl (by show (0 : Nat) ≤ 8; decide) ?_
      refine Run.mono h (fun r10 s11 h => ?_)
      refine R_eqs (st2 := [vI r10]) rfl rfl ?_
      obtain ⟨q12, h⟩ := h
      refine R_if_ne 75 e_X1_readWind_3.2.2.2.2.2.2.1 (by decide) q12  (fun q => ?_) (fun q => ?_)
      · replace h := h.1 q
        refine R_aload_n e_X1_readWind_3.2.2.2.2.2.2.2.2.2 1 rfl ?_
        refine R_getA 1 1 31 e_X1_readWind_4.1 f_X1_33 kx_57 (fun _ _ => rfl) rx_57_1 (by decide) ?_
        refine R_getA 0 9 (31 + 2) e_X1_readWind_4.2.1 f_X1_126 (kC_self isC_31) (fun _ _ => rfl) (kC_r9 isC_31) (kC_n2 isC_31) ?_
        refine R_iload_n e_X1_readWind_4.2.2.1 0 rfl ?_
        refine R_aload_n e_X1_readWind_4.2.2.2.1 1 rfl ?_
        refine R_getA 1 0 3 e_X1_readWind_4.2.2.2.2.1 f_X1_29 kx_57 (fun _ _ => rfl) rx_57_0 (by decide) ?_
        refine R_getI 6 7 7 e_X1_readWind_4.2.2.2.2.2.1 f_X1_108 kx_3 (fun _ _ => rfl) rfl ?_
        obtain ⟨q13, h⟩ := h
        refine R_iast 12 WX_ok e_X1_readWind_4.2.2.2.2.2.2.1 (kC_forces isC_31) q13 ?_
        refine R_iconst e_X1_readWind_4.2.2.2.2.2.2.2.1 ?_
        exact R_zreturn e_X1_readWind_4.2.2.2.2.2.2.2.2 rfl (Or.inr rfl) h
      · replace h := h.2 q
        refine R_iconst e_X1_readWind_3.2.2.2.2.2.2.2.1 ?_
        exact R_zreturn e_X1_readWind_3.2.2.2.2.2.2.2.2.1 rfl (Or.inl rfl) h
    · replace h := h.2 q
      refine R_iconst e_X1_readWind_2.2.1 ?_
      exact R_zreturn e_X1_readWind_2.2.2.1 rfl (Or.inl rfl) h
  · replace h := h.2 q
    refine R_iconst e_X1_readWind_0.2.2.2.2.2.2.2.2.2 ?_
    exact R_zreturn e_X1_readWind_1.1 rfl (Or.inl rfl) h
/-! KiteLand$CountyReader.readNoon()Z -/
theorem e_X1_readNoon_0 : decode cX1_readNoon 0 = .ok (.aload_n 0, 1) ∧ decode cX1_readNoon 1 = .ok (.getfield 9, 3) ∧ decode cX1_readNoon 4 = .ok (.ifCond .eq 12, 3) ∧ decode cX1_readNoon 7 = .ok (.aload_n 0, 1) ∧ decode cX1_readNoon 8 = .ok (.getfield 29, 3) ∧ decode cX1_readNoon 11 = .ok (.iconst 5, 1) ∧ decode cX1_readNoon 12 = .ok (.invokevirtual 97, 3) ∧ decode cX1_readNoon 15 = .ok (.ireturn, 1) ∧ decode cX1_readNoon 16 = .ok (.aload_n 0, 1) ∧ decode cX1_readNoon 17 = .ok (.iconst 1, 1) := by decide +kernel
theorem e_X1_readNoon_1 : decode cX1_readNoon 18 = .ok (.putfield 9, 3) ∧ decode cX1_readNoon 21 = .ok (.aload_n 0, 1) ∧ decode cX1_readNoon 22 = .ok (.getfield 29, 3) ∧ decode cX1_readNoon 25 = .ok (.invokevirtual 119, 3) ∧ decode cX1_readNoon 28 = .ok (.aload_n 0, 1) ∧ decode cX1_readNoon 29 = .ok (.getfield 29, 3) ∧ decode cX1_readNoon 32 = .ok (.iconst 0, 1) ∧ decode cX1_readNoon 33 = .ok (.bipush 11, 2) ∧ decode cX1_readNoon 35 = .ok (.invokevirtual 104, 3) ∧ decode cX1_readNoon 38 = .ok (.ifCond .ne 5, 3) := by decide +kernel
theorem e_X1_readNoon_2 : decode cX1_readNoon 41 = .ok (.iconst 0, 1) ∧ decode cX1_readNoon 42 = .ok (.ireturn, 1) ∧ decode cX1_readNoon 43 = .ok (.aload_n 0, 1) ∧ decode cX1_readNoon 44 = .ok (.getfield 33, 3) ∧ decode cX1_readNoon 47 = .ok (.aload_n 0, 1) ∧ decode cX1_readNoon 48 = .ok (.getfield 29, 3) ∧ decode cX1_readNoon 51 = .ok (.getfield 108, 3) ∧ decode cX1_readNoon 54 = .ok (.putfield 129, 3) ∧ decode cX1_readNoon 57 = .ok (.iconst 1, 1) ∧ decode cX1_readNoon 58 = .ok (.ireturn, 1) := by decide +kernel
theorem S_X1_readNoon {G : Kg} {σ : Kmem} {Q : Int → Kmem → Prop}  (h : (rI (σ 57 2)) ∧ ((σ 57 2 = 0 → Run G WX M_X6_next 1 0 0 [vA G 3] (kup σ 57 2 1) (fun r2 s3 => Run G WX M_X6_takeNumber 2 0 0 [vA G 3, vI 0, vI 11] s3 (fun r4 s5 => (rI r4) ∧ ((r4 ≠ 0 → Q 1 (kup s5 31 2 (s5 3 7))) ∧ (r4 = 0 → Q 0 s5))))) ∧ (σ 57 2 ≠ 0 → (rI (σ 3 2)) ∧ Q 0 (xF σ (5))))) : Run G WX M_X1_readNoon 3 0 0 [vA G 57] σ Q := by
  refine Run.of (by decide +kernel) (by show (1 : Nat) ≤ 1; decide) ?_
  show Ex G WX M_X1_readNoon 3 0 0 0 [(0, vA G 57)] [] σ Q
  refine R_aload_n e_X1_readNoon_0.1 0 rfl ?_
  refine R_getI 1 2 2 e_X1_readNoon_0.2.1 f_X1_9 kx_57 (fun _ _ => rfl) rfl ?_
  obtain ⟨q1, h⟩ := h
  refine R_if_eq 16 e_X1_readNoon_0.2.2.1 (by decide) q1  (fun q => ?_) (fun q => ?_)
  · replace h := h.1 q
    refine R_aload_n e_X1_readNoon_0.2.2.2.2.2.2.2.2.1 0 rfl ?_
    refine R_iconst e_X1_readNoon_0.2.2.2.2.2.2.2.2.2 ?_
    refine R_putZ 1 2 2 WX_ok e_X1_readNoon_1.1 f_X1_9 kx_57 rfl rfl rfl (Or.inr rfl) ?_
    refine R_aload_n e_X1_readNoon_1.2.1 0 rfl ?_
    refine R_getA 1 0 3 e_X1_readNoon_1.2.2.1 f_X1_29 kx_57 (fun _ _ => rfl) rx_57_0 (by decide) ?_
    refine R_callV (mc := 0) (ms := 0) (mc' := 0) (ms' := 0) (M' := M_X6_next) (d' := 1) (as := []) (st := []) 6 0 e_X1_readNoon_1.2.2.2.1 (kCVof m_X6_next l_X1_119) rfl (by decide) kx_3 (by decide) (by decide) rfl rfl (by show (0 : Nat) ≤ 8; decide) ?_
    refine Run.mono h (fun r2 s3 h => ?_)
    refine R_eqs (st2 := []) rfl rfl ?_
    refine R_aload_n e_X1_readNoon_1.2.2.2.2.1 0 rfl ?_
    refine R_getA 1 0 3 e_X1_readNoon_1.2.2.2.2.2.1 f_X1_29 kx_57 (fun _ _ => rfl) rx_57_0 (by decide) ?_
    refine R_iconst e_X1_readNoon_1.2.2.2.2.2.2.1 ?_
    refine R_bipush e_X1_readNoon_1.2.2.2.2.2.2.2.1 (by decide) ?_
    refine R_callV (mc := 0) (ms := 0) (mc' := 0) (ms' := 0) (M' := M_X6_takeNumber) (d' := 2) (as := [vI 0, vI 11]) (st := []) 6 2 e_X1_readNoon_1.2.2.2.2.2.2.2.2.1 (kCVof m_X6_takeNumber l_X1_104) rfl (by decide) kx_3 (by decide) (by decide) rfl rfl (by show (0 : Nat) ≤ 8; decide) ?_
    refine Run.mono h (fun r4 s5 h => ?_)
    refine R_eqs (st2 := [vI r4]) rfl rfl ?_
    obtain ⟨q6, h⟩ := h
    refine R_if_ne 43 e_X1_readNoon_1.2.2.2.2.2.2.2.2.2 (by decide) q6  (fun q => ?_) (fun q => ?_)
    · replace h := h.1 q
      refine R_aload_n e_X1_readNoon_2.2.2.1 0 rfl ?_
      refine R_getA 1 1 31 e_X1_readNoon_2.2.2.2.1 f_X1_33 kx_57 (fun _ _ => rfl) rx_57_1 (by decide) ?_
      refine R_aload_n e_X1_readNoon_2.2.2.2.2.1 0 rfl ?_
      refine R_getA 1 0 3 e_X1_readNoon_2.2.2.2.2.2.1 f_X1_29 kx_57 (fun _ _ => rfl) rx_57_0 (by decide) ?_
      refine R_getI 6 7 7 e_X1_readNoon_2.2.2.2.2.2.2.1 f_X1_108 kx_3 (fun _ _ => rfl) rfl ?_
      refine R_putI 0 2 2 WX_ok e_X1_readNoon_2.2.2.2.2.2.2.2.1 f_X1_129 (kC_self isC_31) rfl rfl rfl ?_
      refine R_iconst e_X1_readNoon_2.2.2.2.2.2.2.2.2.1 ?_
      exact R_zreturn e_X1_readNoon_2.2.2.2.2.2.2.2.2.2 rfl (Or.inr rfl) h
    · replace h := h.2 q
      refine R_iconst e_X1_readNoon_2.1 ?_
      exact R_zreturn e_X1_readNoon_2.2.1 rfl (Or.inl rfl) h
  · replace h := h.2 q
    refine R_aload_n e_X1_readNoon_0.2.2.2.1 0 rfl ?_
    refine R_getA 1 0 3 e_X1_readNoon_0.2.2.2.2.1 f_X1_29 kx_57 (fun _ _ => rfl) rx_57_0 (by decide) ?_
    refine R_iconst e_X1_readNoon_0.2.2.2.2.2.1 ?_
    obtain ⟨q9, h⟩ := h
    refine R_callV (mc := 0) (ms := 0) (mc' := 0) (ms' := 0) (M' := M_X6_fail) (d' := 0) (as := [vI 5]) (st := []) 6 1 e_X1_readNoon_0.2.2.2.2.2.2.1 (kCVof m_X6_fail l_X1_97) rfl (by decide) kx_3 (by decide) (by decide) rfl rfl (by show (0 : Nat) ≤ 8; decide) ?_
    refine Run.mono (P_X6_fail q9) (fun r s e => ?_)
    obtain ⟨e1, e2⟩ := e
    refine R_eqs (st2 := [vI 0]) (σ2 := (xF σ (5))) (by rw [e1]; rfl) e2 ?_
    exact R_zreturn e_X1_readNoon_0.2.2.2.2.2.2.2.1 rfl (Or.inl rfl) h
/-! KiteLand$CountyReader.readLaw()Z -/
theorem e_X1_readLaw_0 : decode cX1_readLaw 0 = .ok (.aload_n 0, 1) ∧ decode cX1_readLaw 1 = .ok (.getfield 15, 3) ∧ decode cX1_readLaw 4 = .ok (.ifCond .eq 12, 3) ∧ decode cX1_readLaw 7 = .ok (.aload_n 0, 1) ∧ decode cX1_readLaw 8 = .ok (.getfield 29, 3) ∧ decode cX1_readLaw 11 = .ok (.iconst 5, 1) ∧ decode cX1_readLaw 12 = .ok (.invokevirtual 97, 3) ∧ decode cX1_readLaw 15 = .ok (.ireturn, 1) ∧ decode cX1_readLaw 16 = .ok (.aload_n 0, 1) ∧ decode cX1_readLaw 17 = .ok (.iconst 1, 1) := by decide +kernel
theorem e_X1_readLaw_1 : decode cX1_readLaw 18 = .ok (.putfield 15, 3) ∧ decode cX1_readLaw 21 = .ok (.aload_n 0, 1) ∧ decode cX1_readLaw 22 = .ok (.getfield 29, 3) ∧ decode cX1_readLaw 25 = .ok (.invokevirtual 119, 3) ∧ decode cX1_readLaw 28 = .ok (.aload_n 0, 1) ∧ decode cX1_readLaw 29 = .ok (.getfield 29, 3) ∧ decode cX1_readLaw 32 = .ok (.iconst 0, 1) ∧ decode cX1_readLaw 33 = .ok (.iconst 2, 1) ∧ decode cX1_readLaw 34 = .ok (.invokevirtual 104, 3) ∧ decode cX1_readLaw 37 = .ok (.ifCond .ne 5, 3) := by decide +kernel
theorem e_X1_readLaw_2 : decode cX1_readLaw 40 = .ok (.iconst 0, 1) ∧ decode cX1_readLaw 41 = .ok (.ireturn, 1) ∧ decode cX1_readLaw 42 = .ok (.aload_n 0, 1) ∧ decode cX1_readLaw 43 = .ok (.getfield 33, 3) ∧ decode cX1_readLaw 46 = .ok (.aload_n 0, 1) ∧ decode cX1_readLaw 47 = .ok (.getfield 29, 3) ∧ decode cX1_readLaw 50 = .ok (.getfield 108, 3) ∧ decode cX1_readLaw 53 = .ok (.putfield 131, 3) ∧ decode cX1_readLaw 56 = .ok (.iconst 1, 1) ∧ decode cX1_readLaw 57 = .ok (.ireturn, 1) := by decide +kernel
theorem S_X1_readLaw {G : Kg} {σ : Kmem} {Q : Int → Kmem → Prop}  (h : (rI (σ 57 3)) ∧ ((σ 57 3 = 0 → Run G WX M_X6_next 1 0 0 [vA G 3] (kup σ 57 3 1) (fun r2 s3 => Run G WX M_X6_takeNumber 2 0 0 [vA G 3, vI 0, vI 2] s3 (fun r4 s5 => (rI r4) ∧ ((r4 ≠ 0 → Q 1 (kup s5 31 3 (s5 3 7))) ∧ (r4 = 0 → Q 0 s5))))) ∧ (σ 57 3 ≠ 0 → (rI (σ 3 2)) ∧ Q 0 (xF σ (5))))) : Run G WX M_X1_readLaw 3 0 0 [vA G 57] σ Q := by
  refine Run.of (by decide +kernel) (by show (1 : Nat) ≤ 1; decide) ?_
  show Ex G WX M_X1_readLaw 3 0 0 0 [(0, vA G 57)] [] σ Q
  refine R_aload_n e_X1_readLaw_0.1 0 rfl ?_
  refine R_getI 1 3 3 e_X1_readLaw_0.2.1 f_X1_15 kx_57 (fun _ _ => rfl) rfl ?_
  obtain ⟨q1, h⟩ := h
  refine R_if_eq 16 e_X1_readLaw_0.2.2.1 (by decide) q1  (fun q => ?_) (fun q => ?_)
  · replace h := h.1 q
    refine R_aload_n e_X1_readLaw_0.2.2.2.2.2.2.2.2.1 0 rfl ?_
    refine R_iconst e_X1_readLaw_0.2.2.2.2.2.2.2.2.2 ?_
    refine R_putZ 1 3 3 WX_ok e_X1_readLaw_1.1 f_X1_15 kx_57 rfl rfl rfl (Or.inr rfl) ?_
    refine R_aload_n e_X1_readLaw_1.2.1 0 rfl ?_
    refine R_getA 1 0 3 e_X1_readLaw_1.2.2.1 f_X1_29 kx_57 (fun _ _ => rfl) rx_57_0 (by decide) ?_
    refine R_callV (mc := 0) (ms := 0) (mc' := 0) (ms' := 0) (M' := M_X6_next) (d' := 1) (as := []) (st := []) 6 0 e_X1_readLaw_1.2.2.2.1 (kCVof m_X6_next l_X1_119) rfl (by decide) kx_3 (by decide) (by decide) rfl rfl (by show (0 : Nat) ≤ 8; decide) ?_
    refine Run.mono h (fun r2 s3 h => ?_)
    refine R_eqs (st2 := []) rfl rfl ?_
    refine R_aload_n e_X1_readLaw_1.2.2.2.2.1 0 rfl ?_
    refine R_getA 1 0 3 e_X1_readLaw_1.2.2.2.2.2.1 f_X1_29 kx_57 (fun _ _ => rfl) rx_57_0 (by decide) ?_
    refine R_iconst e_X1_readLaw_1.2.2.2.2.2.2.1 ?_
    refine R_iconst e_X1_readLaw_1.2.2.2.2.2.2.2.1 ?_
    refine R_callV (mc := 0) (ms := 0) (mc' := 0) (ms' := 0) (M' := M_X6_takeNumber) (d' := 2) (as := [vI 0, vI 2]) (st := []) 6 2 e_X1_readLaw_1.2.2.2.2.2.2.2.2.1 (kCVof m_X6_takeNumber l_X1_104) rfl (by decide) kx_3 (by decide) (by decide) rfl rfl (by show (0 : Nat) ≤ 8; decide) ?_
    refine Run.mono h (fun r4 s5 h => ?_)
    refine R_eqs (st2 := [vI r4]) rfl rfl ?_
    obtain ⟨q6, h⟩ := h
    refine R_if_ne 42 e_X1_readLaw_1.2.2.2.2.2.2.2.2.2 (by decide) q6  (fun q => ?_) (fun q => ?_)
    · replace h := h.1 q
      refine R_aload_n e_X1_readLaw_2.2.2.1 0 rfl ?_
      refine R_getA 1 1 31 e_X1_readLaw_2.2.2.2.1 f_X1_33 kx_57 (fun _ _ => rfl) rx_57_1 (by decide) ?_
      refine R_aload_n e_X1_readLaw_2.2.2.2.2.1 0 rfl ?_
      refine R_getA 1 0 3 e_X1_readLaw_2.2.2.2.2.2.1 f_X1_29 kx_57 (fun _ _ => rfl) rx_57_0 (by decide) ?_
      refine R_getI 6 7 7 e_X1_readLaw_2.2.2.2.2.2.2.1 f_X1_108 kx_3 (fun _ _ => rfl) rfl ?_
      refine R_putI 0 3 3 WX_ok e_X1_readLaw_2.2.2.2.2.2.2.2.1 f_X1_131 (kC_self isC_31) rfl rfl rfl ?_
      refine R_iconst e_X1_readLaw_2.2.2.2.2.2.2.2.2.1 ?_
      exact R_zreturn e_X1_readLaw_2.2.2.2.2.2.2.2.2.2 rfl (Or.inr rfl) h
    · replace h := h.2 q
      refine R_iconst e_X1_readLaw_2.1 ?_
      exact R_zreturn e_X1_readLaw_2.2.1 rfl (Or.inl rfl) h
  · replace h := h.2 q
    refine R_aload_n e_X1_readLaw_0.2.2.2.1 0 rfl ?_
    refine R_getA 1 0 3 e_X1_readLaw_0.2.2.2.2.1 f_X1_29 kx_57 (fun _ _ => rfl) rx_57_0 (by decide) ?_
    refine R_iconst e_X1_readLaw_0.2.2.2.2.2.1 ?_
    obtain ⟨q9, h⟩ := h
    refine R_callV (mc := 0) (ms := 0) (mc' := 0) (ms' := 0) (M' := M_X6_fail) (d' := 0) (as := [vI 5]) (st := []) 6 1 e_X1_readLaw_0.2.2.2.2.2.2.1 (kCVof m_X6_fail l_X1_97) rfl (by decide) kx_3 (by decide) (by decide) rfl rfl (by show (0 : Nat) ≤ 8; decide) ?_
    refine Run.mono (P_X6_fail q9) (fun r s e => ?_)
    obtain ⟨e1, e2⟩ := e
    refine R_eqs (st2 := [vI 0]) (σ2 := (xF σ (5))) (by rw [e1]; rfl) e2 ?_
    exact R_zreturn e_X1_readLaw_0.2.2.2.2.2.2.2.1 rfl (Or.inl rfl) h
/-! KiteLand$CountyReader.readLand()Z -/
theorem e_X1_readLand_0 : decode cX1_readLand 0 = .ok (.aload_n 0, 1) ∧ decode cX1_readLand 1 = .ok (.getfield 29, 3) ∧ decode cX1_readLand 4 = .ok (.ldc 95, 2) ∧ decode cX1_readLand 6 = .ok (.invokevirtual 101, 3) ∧ decode cX1_readLand 9 = .ok (.ifCond .eq 16, 3) ∧ decode cX1_readLand 12 = .ok (.aload_n 0, 1) ∧ decode cX1_readLand 13 = .ok (.getfield 29, 3) ∧ decode cX1_readLand 16 = .ok (.iconst 1, 1) ∧ decode cX1_readLand 17 = .ok (.bipush 9, 2) ∧ decode cX1_readLand 19 = .ok (.invokevirtual 104, 3) := by decide +kernel
theorem e_X1_readLand_1 : decode cX1_readLand 22 = .ok (.ifCond .ne 5, 3) ∧ decode cX1_readLand 25 = .ok (.iconst 0, 1) ∧ decode cX1_readLand 26 = .ok (.ireturn, 1) ∧ decode cX1_readLand 27 = .ok (.aload_n 0, 1) ∧ decode cX1_readLand 28 = .ok (.getfield 33, 3) ∧ decode cX1_readLand 31 = .ok (.aload_n 0, 1) ∧ decode cX1_readLand 32 = .ok (.getfield 29, 3) ∧ decode cX1_readLand 35 = .ok (.getfield 108, 3) ∧ decode cX1_readLand 38 = .ok (.putfield 111, 3) ∧ decode cX1_readLand 41 = .ok (.aload_n 0, 1) := by decide +kernel
theorem e_X1_readLand_2 : decode cX1_readLand 42 = .ok (.getfield 29, 3) ∧ decode cX1_readLand 45 = .ok (.ldc 114, 2) ∧ decode cX1_readLand 47 = .ok (.invokevirtual 101, 3) ∧ decode cX1_readLand 50 = .ok (.ifCond .eq 16, 3) ∧ decode cX1_readLand 53 = .ok (.aload_n 0, 1) ∧ decode cX1_readLand 54 = .ok (.getfield 29, 3) ∧ decode cX1_readLand 57 = .ok (.iconst 1, 1) ∧ decode cX1_readLand 58 = .ok (.bipush 7, 2) ∧ decode cX1_readLand 60 = .ok (.invokevirtual 104, 3) ∧ decode cX1_readLand 63 = .ok (.ifCond .ne 5, 3) := by decide +kernel
theorem e_X1_readLand_3 : decode cX1_readLand 66 = .ok (.iconst 0, 1) ∧ decode cX1_readLand 67 = .ok (.ireturn, 1) ∧ decode cX1_readLand 68 = .ok (.aload_n 0, 1) ∧ decode cX1_readLand 69 = .ok (.getfield 33, 3) ∧ decode cX1_readLand 72 = .ok (.aload_n 0, 1) ∧ decode cX1_readLand 73 = .ok (.getfield 29, 3) ∧ decode cX1_readLand 76 = .ok (.getfield 108, 3) ∧ decode cX1_readLand 79 = .ok (.putfield 116, 3) ∧ decode cX1_readLand 82 = .ok (.iconst 1, 1) ∧ decode cX1_readLand 83 = .ok (.ireturn, 1) := by decide +kernel
theorem S_X1_readLand {G : Kg} {σ : Kmem} {Q : Int → Kmem → Prop}  (h : Run G WX M_X6_takeWord 5 0 0 [vA G 3, vA G (-24)] σ (fun r1 s2 => (rI r1) ∧ ((r1 = 0 → Q 0 s2) ∧ (r1 ≠ 0 → Run G WX M_X6_takeNumber 2 0 0 [vA G 3, vI 1, vI 9] s2 (fun r4 s5 => (rI r4) ∧ ((r4 ≠ 0 → Run G WX M_X6_takeWord 5 0 0 [vA G 3, vA G (-10)] (kup s5 31 0 (s5 3 7)) (fun r7 s8 => (rI r7) ∧ ((r7 = 0 → Q 0 s8) ∧ (r7 ≠ 0 → Run G WX M_X6_takeNumber 2 0 0 [vA G 3, vI 1, vI 7] s8 (fun r10 s11 => (rI r10) ∧ ((r10 ≠ 0 → Q 1 (kup s11 31 1 (s11 3 7))) ∧ (r10 = 0 → Q 0 s11))))))) ∧ (r4 = 0 → Q 0 s5))))))) : Run G WX M_X1_readLand 6 0 0 [vA G 57] σ Q := by
  refine Run.of (by decide +kernel) (by show (1 : Nat) ≤ 1; decide) ?_
  show Ex G WX M_X1_readLand 6 0 0 0 [(0, vA G 57)] [] σ Q
  refine R_aload_n e_X1_readLand_0.1 0 rfl ?_
  refine R_getA 1 0 3 e_X1_readLand_0.2.1 f_X1_29 kx_57 (fun _ _ => rfl) rx_57_0 (by decide) ?_
  refine R_ldcS (i := 14) (-24) e_X1_readLand_0.2.2.1 rfl rfl ?_
  refine R_callV (mc := 0) (ms := 0) (mc' := 0) (ms' := 0) (M' := M_X6_takeWord) (d' := 5) (as := [vA G (-24)]) (st := []) 6 1 e_X1_readLand_0.2.2.2.1 (kCVof m_X6_takeWord l_X1_101) rfl (by decide) kx_3 (by decide) (by decide) rfl rfl (by show (0 : Nat) ≤ 8; decide) ?_
  refine Run.mono h (fun r1 s2 h => ?_)
  refine R_eqs (st2 := [vI r1]) rfl rfl ?_
  obtain ⟨q3, h⟩ := h
  refine R_if_eq 25 e_X1_readLand_0.2.2.2.2.1 (by decide) q3  (fun q => ?_) (fun q => ?_)
  · replace h := h.1 q
    refine R_iconst e_X1_readLand_1.2.1 ?_
    exact R_zreturn e_X1_readLand_1.2.2.1 rfl (Or.inl rfl) h
  · replace h := h.2 q
    refine R_aload_n e_X1_readLand_0.2.2.2.2.2.1 0 rfl ?_
    refine R_getA 1 0 3 e_X1_readLand_0.2.2.2.2.2.2.1 f_X1_29 kx_57 (fun _ _ => rfl) rx_57_0 (by decide) ?_
    refine R_iconst e_X1_readLand_0.2.2.2.2.2.2.2.1 ?_
    refine R_bipush e_X1_readLand_0.2.2.2.2.2.2.2.2.1 (by decide) ?_
    refine R_callV (mc := 0) (ms := 0) (mc' := 0) (ms' := 0) (M' := M_X6_takeNumber) (d' := 2) (as := [vI 1, vI 9]) (st := []) 6 2 e_X1_readLand_0.2.2.2.2.2.2.2.2.2 (kCVof m_X6_takeNumber l_X1_104) rfl (by decide) kx_3 (by decide) (by decide) rfl rfl (by show (0 : Nat) ≤ 8; decide) ?_
    refine Run.mono h (fun r4 s5 h => ?_)
    refine R_eqs (st2 := [vI r4]) rfl rfl ?_
    obtain ⟨q6, h⟩ := h
    refine R_if_ne 27 e_X1_readLand_1.1 (by decide) q6  (fun q => ?_) (fun q => ?_)
    · replace h := h.1 q
      refine R_aload_n e_X1_readLand_1.2.2.2.1 0 rfl ?_
      refine R_getA 1 1 31 e_X1_readLand_1.2.2.2.2.1 f_X1_33 kx_57 (fun _ _ => rfl) rx_57_1 (by decide) ?_
      refine R_aload_n e_X1_readLand_1.2.2.2.2.2.1 0 rfl ?_
      refine R_getA 1 0 3 e_X1_readLand_1.2.2.2.2.2.2.1 f_X1_29 kx_57 (fun _ _ => rfl) rx_57_0 (by decide) ?_
      refine R_getI 6 7 7 e_X1_readLand_1.2.2.2.2.2.2.2.1 f_X1_108 kx_3 (fun _ _ => rfl) rfl ?_
      refine R_putI 0 0 0 WX_ok e_X1_readLand_1.2.2.2.2.2.2.2.2.1 f_X1_111 (kC_self isC_31) rfl rfl rfl ?_
      refine R_aload_n e_X1_readLand_1.2.2.2.2.2.2.2.2.2 0 rfl ?_
      refine R_getA 1 0 3 e_X1_readLand_2.1 f_X1_29 kx_57 (fun _ _ => rfl) rx_57_0 (by decide) ?_
      refine R_ldcS (i := 0) (-10) e_X1_readLand_2.2.1 rfl rfl ?_
      refine R_callV (mc := 0) (ms := 0) (mc' := 0) (ms' := 0) (M' := M_X6_takeWord) (d' := 5) (as := [vA G (-10)]) (st := []) 6 1 e_X1_readLand_2.2.2.1 (kCVof m_X6_takeWord l_X1_101) rfl (by decide) kx_3 (by decide) (by decide) rfl rfl (by show (0 : Nat) ≤ 8; decide) ?_
      refine Run.mono h (fun r7 s8 h => ?_)
      refine R_eqs (st2 := [vI r7]) rfl rfl ?_
      obtain ⟨q9, h⟩ := h
      refine R_if_eq 66 e_X1_readLand_2.2.2.2.1 (by decide) q9  (fun q => ?_) (fun q => ?_)
      · replace h := h.1 q
        refine R_iconst e_X1_readLand_3.1 ?_
        exact R_zreturn e_X1_readLand_3.2.1 rfl (Or.inl rfl) h
      · replace h := h.2 q
        refine R_aload_n e_X1_readLand_2.2.2.2.2.1 0 rfl ?_
        refine R_getA 1 0 3 e_X1_readLand_2.2.2.2.2.2.1 f_X1_29 kx_57 (fun _ _ => rfl) rx_57_0 (by decide) ?_
        refine R_iconst e_X1_readLand_2.2.2.2.2.2.2.1 ?_
        refine R_bipush e_X1_readLand_2.2.2.2.2.2.2.2.1 (by decide) ?_
        refine R_callV (mc := 0) (ms := 0) (mc' := 0) (ms' := 0) (M' := M_X6_takeNumber) (d' := 2) (as := [vI 1, vI 7]) (st := []) 6 2 e_X1_readLand_2.2.2.2.2.2.2.2.2.1 (kCVof m_X6_takeNumber l_X1_104) rfl (by decide) kx_3 (by decide) (by decide) rfl rfl (by show (0 : Nat) ≤ 8; decide) ?_
        refine Run.mono h (fun r10 s11 h => ?_)
        refine R_eqs (st2 := [vI r10]) rfl rfl ?_
        obtain ⟨q12, h⟩ := h
        refine R_if_ne 68 e_X1_readLand_2.2.2.2.2.2.2.2.2.2 (by decide) q12  (fun q => ?_) (fun q => ?_)
        · replace h := h.1 q
          refine R_aload_n e_X1_readLand_3.2.2.1 0 rfl ?_
          refine R_getA 1 1 31 e_X1_readLand_3.2.2.2.1 f_X1_33 kx_57 (fun _ _ => rfl) rx_57_1 (by decide) ?_
          refine R_aload_n e_X1_readLand_3.2.2.2.2.1 0 rfl ?_
          refine R_getA 1 0 3 e_X1_readLand_3.2.2.2.2.2.1 f_X1_29 kx_57 (fun _ _ => rfl) rx_57_0 (by decide) ?_
          refine R_getI 6 7 7 e_X1_readLand_3.2.2.2.2.2.2.1 f_X1_108 kx_3 (fun _ _ => rfl) rfl ?_
          refine R_putI 0 1 1 WX_ok e_X1_readLand_3.2.2.2.2.2.2.2.1 f_X1_116 (kC_self isC_31) rfl rfl rfl ?_
          refine R_iconst e_X1_readLand_3.2.2.2.2.2.2.2.2.1 ?_
          exact R_zreturn e_X1_readLand_3.2.2.2.2.2.2.2.2.2 rfl (Or.inr rfl) h
        · replace h := h.2 q
          refine R_iconst e_X1_readLand_3.1 ?_
          exact R_zreturn e_X1_readLand_3.2.1 rfl (Or.inl rfl) h
    · replace h := h.2 q
      refine R_iconst e_X1_readLand_1.2.1 ?_
      exact R_zreturn e_X1_readLand_1.2.2.1 rfl (Or.inl rfl) h
/-! KiteLand$CountyReader.readKite()Z -/
theorem e_X1_readKite_0 : decode cX1_readKite 0 = .ok (.aload_n 0, 1) ∧ decode cX1_readKite 1 = .ok (.getfield 33, 3) ∧ decode cX1_readKite 4 = .ok (.getfield 133, 3) ∧ decode cX1_readKite 7 = .ok (.bipush 6, 2) ∧ decode cX1_readKite 9 = .ok (.if_icmp .lt 13, 3) ∧ decode cX1_readKite 12 = .ok (.aload_n 0, 1) ∧ decode cX1_readKite 13 = .ok (.getfield 29, 3) ∧ decode cX1_readKite 16 = .ok (.bipush 6, 2) ∧ decode cX1_readKite 18 = .ok (.invokevirtual 97, 3) ∧ decode cX1_readKite 21 = .ok (.ireturn, 1) := by decide +kernel
theorem e_X1_readKite_1 : decode cX1_readKite 22 = .ok (.aload_n 0, 1) ∧ decode cX1_readKite 23 = .ok (.getfield 29, 3) ∧ decode cX1_readKite 26 = .ok (.invokevirtual 119, 3) ∧ decode cX1_readKite 29 = .ok (.aload_n 0, 1) ∧ decode cX1_readKite 30 = .ok (.invokevirtual 136, 3) ∧ decode cX1_readKite 33 = .ok (.ifCond .eq 10, 3) ∧ decode cX1_readKite 36 = .ok (.aload_n 0, 1) ∧ decode cX1_readKite 37 = .ok (.invokevirtual 139, 3) ∧ decode cX1_readKite 40 = .ok (.ifCond .ne 5, 3) ∧ decode cX1_readKite 43 = .ok (.iconst 0, 1) := by decide +kernel
theorem e_X1_readKite_2 : decode cX1_readKite 44 = .ok (.ireturn, 1) ∧ decode cX1_readKite 45 = .ok (.aload_n 0, 1) ∧ decode cX1_readKite 46 = .ok (.getfield 33, 3) ∧ decode cX1_readKite 49 = .ok (.getfield 142, 3) ∧ decode cX1_readKite 52 = .ok (.aload_n 0, 1) ∧ decode cX1_readKite 53 = .ok (.getfield 33, 3) ∧ decode cX1_readKite 56 = .ok (.getfield 133, 3) ∧ decode cX1_readKite 59 = .ok (.aaload, 1) ∧ decode cX1_readKite 60 = .ok (.astore_n 1, 1) ∧ decode cX1_readKite 61 = .ok (.aload_n 1, 1) := by decide +kernel
theorem e_X1_readKite_3 : decode cX1_readKite 62 = .ok (.aload_n 0, 1) ∧ decode cX1_readKite 63 = .ok (.getfield 18, 3) ∧ decode cX1_readKite 66 = .ok (.aload_n 0, 1) ∧ decode cX1_readKite 67 = .ok (.getfield 22, 3) ∧ decode cX1_readKite 70 = .ok (.aload_n 0, 1) ∧ decode cX1_readKite 71 = .ok (.getfield 26, 3) ∧ decode cX1_readKite 74 = .ok (.invokevirtual 146, 3) ∧ decode cX1_readKite 77 = .ok (.aload_n 0, 1) ∧ decode cX1_readKite 78 = .ok (.getfield 33, 3) ∧ decode cX1_readKite 81 = .ok (.dup, 1) := by decide +kernel
theorem e_X1_readKite_4 : decode cX1_readKite 82 = .ok (.getfield 133, 3) ∧ decode cX1_readKite 85 = .ok (.iconst 1, 1) ∧ decode cX1_readKite 86 = .ok (.iadd, 1) ∧ decode cX1_readKite 87 = .ok (.putfield 133, 3) ∧ decode cX1_readKite 90 = .ok (.aload_n 0, 1) ∧ decode cX1_readKite 91 = .ok (.ldc 152, 2) ∧ decode cX1_readKite 93 = .ok (.iconst 2, 1) ∧ decode cX1_readKite 94 = .ok (.invokevirtual 154, 3) ∧ decode cX1_readKite 97 = .ok (.ifCond .eq 14, 3) ∧ decode cX1_readKite 100 = .ok (.aload_n 1, 1) := by decide +kernel
theorem e_X1_readKite_5 : decode cX1_readKite 101 = .ok (.aload_n 0, 1) ∧ decode cX1_readKite 102 = .ok (.getfield 29, 3) ∧ decode cX1_readKite 105 = .ok (.getfield 108, 3) ∧ decode cX1_readKite 108 = .ok (.putfield 158, 3) ∧ decode cX1_readKite 111 = .ok (.aload_n 0, 1) ∧ decode cX1_readKite 112 = .ok (.ldc 160, 2) ∧ decode cX1_readKite 114 = .ok (.bipush 9, 2) ∧ decode cX1_readKite 116 = .ok (.invokevirtual 154, 3) ∧ decode cX1_readKite 119 = .ok (.ifCond .eq 14, 3) ∧ decode cX1_readKite 122 = .ok (.aload_n 1, 1) := by decide +kernel
theorem e_X1_readKite_6 : decode cX1_readKite 123 = .ok (.aload_n 0, 1) ∧ decode cX1_readKite 124 = .ok (.getfield 29, 3) ∧ decode cX1_readKite 127 = .ok (.getfield 108, 3) ∧ decode cX1_readKite 130 = .ok (.putfield 162, 3) ∧ decode cX1_readKite 133 = .ok (.aload_n 0, 1) ∧ decode cX1_readKite 134 = .ok (.ldc 164, 2) ∧ decode cX1_readKite 136 = .ok (.iconst 3, 1) ∧ decode cX1_readKite 137 = .ok (.invokevirtual 154, 3) ∧ decode cX1_readKite 140 = .ok (.ifCond .eq 14, 3) ∧ decode cX1_readKite 143 = .ok (.aload_n 1, 1) := by decide +kernel
theorem e_X1_readKite_7 : decode cX1_readKite 144 = .ok (.aload_n 0, 1) ∧ decode cX1_readKite 145 = .ok (.getfield 29, 3) ∧ decode cX1_readKite 148 = .ok (.getfield 108, 3) ∧ decode cX1_readKite 151 = .ok (.putfield 166, 3) ∧ decode cX1_readKite 154 = .ok (.aload_n 0, 1) ∧ decode cX1_readKite 155 = .ok (.ldc 168, 2) ∧ decode cX1_readKite 157 = .ok (.bipush 7, 2) ∧ decode cX1_readKite 159 = .ok (.invokevirtual 154, 3) ∧ decode cX1_readKite 162 = .ok (.ifCond .eq 14, 3) ∧ decode cX1_readKite 165 = .ok (.aload_n 1, 1) := by decide +kernel
theorem e_X1_readKite_8 : decode cX1_readKite 166 = .ok (.aload_n 0, 1) ∧ decode cX1_readKite 167 = .ok (.getfield 29, 3) ∧ decode cX1_readKite 170 = .ok (.getfield 108, 3) ∧ decode cX1_readKite 173 = .ok (.putfield 170, 3) ∧ decode cX1_readKite 176 = .ok (.aload_n 0, 1) ∧ decode cX1_readKite 177 = .ok (.getfield 29, 3) ∧ decode cX1_readKite 180 = .ok (.getfield 172, 3) ∧ decode cX1_readKite 183 = .ok (.ifCond .ne 7, 3) ∧ decode cX1_readKite 186 = .ok (.iconst 1, 1) ∧ decode cX1_readKite 187 = .ok (.goto 4, 3) := by decide +kernel
theorem e_X1_readKite_9 : decode cX1_readKite 190 = .ok (.iconst 0, 1) ∧ decode cX1_readKite 191 = .ok (.ireturn, 1) := by decide +kernel
abbrev E_X1_readKite_133 (G : Kg) (l1 : Int) (σ : Kmem) (Q : Int → Kmem → Prop) : Prop := Ex G WX M_X1_readKite 7 0 0 133 [(0, vA G 57), (1, vA G l1)] [] σ Q
theorem S_X1_readKite {G : Kg} {σ : Kmem} {Q : Int → Kmem → Prop}  (h : (rI (σ 31 5)) ∧ ((σ 31 5 < 6 → Run G WX M_X6_next 1 0 0 [vA G 3] σ (fun r2 s3 => Run G WX M_X1_readNewName 6 0 0 [vA G 57] s3 (fun r4 s5 => (rI r4) ∧ ((r4 = 0 → Q 0 s5) ∧ (r4 ≠ 0 → Run G WX M_X1_readField 6 0 0 [vA G 57] s5 (fun r7 s8 => (rI r7) ∧ ((r7 ≠ 0 → (0 ≤ s8 31 5 ∧ s8 31 5 < 6) ∧ Run G WX M_X3_begin 0 0 0 [vA G (31 + 6 + (s8 31 5)), vL (s8 57 4), vI (s8 57 5), vI (s8 57 6)] s8 (fun r11 s12 => Run G WX M_X1_readTrait 5 0 0 [vA G 57, vA G (-11), vI 2] (kup s12 31 5 ((s12 31 5) + 1)) (fun r13 s14 => (rI r13) ∧ ((r13 = 0 → Run G WX M_X1_readTrait 5 0 0 [vA G 57, vA G (-12), vI 9] s14 (fun r16 s17 => (rI r16) ∧ ((r16 = 0 → E_X1_readKite_133 G (31 + 6 + (s8 31 5)) s17 Q) ∧ (r16 ≠ 0 → E_X1_readKite_133 G (31 + 6 + (s8 31 5)) (kup s17 (31 + 6 + (s8 31 5)) 4 (s17 3 7)) Q)))) ∧ (r13 ≠ 0 → Run G WX M_X1_readTrait 5 0 0 [vA G 57, vA G (-12), vI 9] (kup s14 (31 + 6 + (s8 31 5)) 3 (s14 3 7)) (fun r19 s20 => (rI r19) ∧ ((r19 = 0 → E_X1_readKite_133 G (31 + 6 + (s8 31 5)) s20 Q) ∧ (r19 ≠ 0 → E_X1_readKite_133 G (31 + 6 + (s8 31 5)) (kup s20 (31 + 6 + (s8 31 5)) 4 (s20 3 7)) Q)))))))) ∧ (r7 = 0 → Q 0 s8)))))))) ∧ (6 ≤ σ 31 5 → (rI (σ 3 2)) ∧ Q 0 (xF σ (6))))) : Run G WX M_X1_readKite 7 0 0 [vA G 57] σ Q := by
  refine Run.of (by decide +kernel) (by show (1 : Nat) ≤ 2; decide) ?_
  show Ex G WX M_X1_readKite 7 0 0 0 [(0, vA G 57)] [] σ Q
  refine R_aload_n e_X1_readKite_0.1 0 rfl ?_
  refine R_getA 1 1 31 e_X1_readKite_0.2.1 f_X1_33 kx_57 (fun _ _ => rfl) rx_57_1 (by decide) ?_
  refine R_getI 0 5 5 e_X1_readKite_0.2.2.1 f_X1_133 (kC_self isC_31) (fun _ _ => rfl) rfl ?_
  refine R_bipush e_X1_readKite_0.2.2.2.1 (by decide) ?_
  obtain ⟨q1, h⟩ := h
  refine R_icmp_lt 22 e_X1_readKite_0.2.2.2.2.1 (by decide) q1 (by decide) (fun q => ?_) (fun q => ?_)
  · replace h := h.1 q
    refine R_aload_n e_X1_readKite_1.1 0 rfl ?_
    refine R_getA 1 0 3 e_X1_readKite_1.2.1 f_X1_29 kx_57 (fun _ _ => rfl) rx_57_0 (by decide) ?_
    refine R_callV (mc := 0) (ms := 0) (mc' := 0) (ms' := 0) (M' := M_X6_next) (d' := 1) (as := []) (st := []) 6 0 e_X1_readKite_1.2.2.1 (kCVof m_X6_next l_X1_119) rfl (by decide) kx_3 (by decide) (by decide) rfl rfl (by show (0 : Nat) ≤ 8; decide) ?_
    refine Run.mono h (fun r2 s3 h => ?_)
    refine R_eqs (st2 := []) rfl rfl ?_
    refine R_aload_n e_X1_readKite_1.2.2.2.1 0 rfl ?_
    refine R_callV (mc := 0) (ms := 0) (mc' := 0) (ms' := 0) (M' := M_X1_readNewName) (d' := 6) (as := []) (st := []) 1 0 e_X1_readKite_1.2.2.2.2.1 (kCVof m_X1_readNewName l_X1_136) rfl (by decide) kx_57 (by decide) (by decide) rfl rfl (by show (0 : Nat) ≤ 8; decide) ?_
    refine Run.mono h (fun r4 s5 h => ?_)
    refine R_eqs (st2 := [vI r4]) rfl rfl ?_
    obtain ⟨q6, h⟩ := h
    refine R_if_eq 43 e_X1_readKite_1.2.2.2.2.2.1 (by decide) q6  (fun q => ?_) (fun q => ?_)
    · replace h := h.1 q
      refine R_iconst e_X1_readKite_1.2.2.2.2.2.2.2.2.2 ?_
      exact R_zreturn e_X1_readKite_2.1 rfl (Or.inl rfl) h
    · replace h := h.2 q
      refine R_aload_n e_X1_readKite_1.2.2.2.2.2.2.1 0 rfl ?_
      refine R_callV (mc := 0) (ms := 0) (mc' := 0) (ms' := 0) (M' := M_X1_readField) (d' := 6) (as := []) (st := []) 1 0 e_X1_readKite_1.2.2.2.2.2.2.2.1 (kCVof m_X1_readField l_X1_139) rfl (by decide) kx_57 (by decide) (by decide) rfl rfl (by show (0 : Nat) ≤ 8; decide) ?_
      refine Run.mono h (fun r7 s8 h => ?_)
      refine R_eqs (st2 := [vI r7]) rfl rfl ?_
      obtain ⟨q9, h⟩ := h
      refine R_if_ne 45 e_X1_readKite_1.2.2.2.2.2.2.2.2.1 (by decide) q9  (fun q => ?_) (fun q => ?_)
      · replace h := h.1 q
        refine R_aload_n e_X1_readKite_2.2.1 0 rfl ?_
        refine R_getA 1 1 31 e_X1_readKite_2.2.2.1 f_X1_33 kx_57 (fun _ _ => rfl) rx_57_1 (by decide) ?_
        refine R_getA 0 10 (31 + 3) e_X1_readKite_2.2.2.2.1 f_X1_142 (kC_self isC_31) (fun _ _ => rfl) (kC_r10 isC_31) (kC_n3 isC_31) ?_
        refine R_aload_n e_X1_readKite_2.2.2.2.2.1 0 rfl ?_
        refine R_getA 1 1 31 e_X1_readKite_2.2.2.2.2.2.1 f_X1_33 kx_57 (fun _ _ => rfl) rx_57_1 (by decide) ?_
        refine R_getI 0 5 5 e_X1_readKite_2.2.2.2.2.2.2.1 f_X1_133 (kC_self isC_31) (fun _ _ => rfl) rfl ?_
        obtain ⟨q10, h⟩ := h
        refine R_aald 27 6 (31 + 6 + (s8 31 5)) e_X1_readKite_2.2.2.2.2.2.2.2.1 (by decide) (kC_kites isC_31) q10 (kC_kiteAt isC_31 q10) (kC_kiteN isC_31 q10) ?_
        refine R_astore_n (ls2 := [(1, vA G (31 + 6 + (s8 31 5))), (0, vA G 57)]) e_X1_readKite_2.2.2.2.2.2.2.2.2.1 (by decide) rfl ?_
        refine R_aload_n e_X1_readKite_2.2.2.2.2.2.2.2.2.2 0 rfl ?_
        refine R_aload_n e_X1_readKite_3.1 1 rfl ?_
        refine R_getL 1 4 4 e_X1_readKite_3.2.1 f_X1_18 kx_57 (fun _ _ => rfl) rfl ?_
        refine R_aload_n e_X1_readKite_3.2.2.1 1 rfl ?_
        refine R_getI 1 5 5 e_X1_readKite_3.2.2.2.1 f_X1_22 kx_57 (fun _ _ => rfl) rfl ?_
        refine R_aload_n e_X1_readKite_3.2.2.2.2.1 1 rfl ?_
        refine R_getI 1 6 6 e_X1_readKite_3.2.2.2.2.2.1 f_X1_26 kx_57 (fun _ _ => rfl) rfl ?_
        refine R_callV (mc := 0) (ms := 0) (mc' := 0) (ms' := 0) (M' := M_X3_begin) (d' := 0) (as := [vL (s8 57 4), vI (s8 57 5), vI (s8 57 6)]) (st := []) 3 3 e_X1_readKite_3.2.2.2.2.2.2.1 (kCVof m_X3_begin l_X1_146) rfl (by decide) (kC_kite isC_31 q10) (by decide) (by decide) rfl rfl (by show (0 : Nat) ≤ 8; decide) ?_
        refine Run.mono h (fun r11 s12 h => ?_)
        refine R_eqs (st2 := []) rfl rfl ?_
        refine R_aload_n e_X1_readKite_3.2.2.2.2.2.2.2.1 1 rfl ?_
        refine R_getA 1 1 31 e_X1_readKite_3.2.2.2.2.2.2.2.2.1 f_X1_33 kx_57 (fun _ _ => rfl) rx_57_1 (by decide) ?_
        refine R_dup e_X1_readKite_3.2.2.2.2.2.2.2.2.2 rfl ?_
        refine R_getI 0 5 5 e_X1_readKite_4.1 f_X1_133 (kC_self isC_31) (fun _ _ => rfl) rfl ?_
        refine R_iconst e_X1_readKite_4.2.1 ?_
        refine R_iadd e_X1_readKite_4.2.2.1 ?_
        refine R_putI 0 5 5 WX_ok e_X1_readKite_4.2.2.2.1 f_X1_133 (kC_self isC_31) rfl rfl rfl ?_
        refine R_aload_n e_X1_readKite_4.2.2.2.2.1 1 rfl ?_
        refine R_ldcS (i := 1) (-11) e_X1_readKite_4.2.2.2.2.2.1 rfl rfl ?_
        refine R_iconst e_X1_readKite_4.2.2.2.2.2.2.1 ?_
        refine R_callV (mc := 0) (ms := 0) (mc' := 0) (ms' := 0) (M' := M_X1_readTrait) (d' := 5) (as := [vA G (-11), vI 2]) (st := []) 1 2 e_X1_readKite_4.2.2.2.2.2.2.2.1 (kCVof m_X1_readTrait l_X1_154) rfl (by decide) kx_57 (by decide) (by decide) rfl rfl (by show (0 : Nat) ≤ 8; decide) ?_
        refine Run.mono h (fun r13 s14 h => ?_)
        refine R_eqs (st2 := [vI r13]) rfl rfl ?_
        obtain ⟨q15, h⟩ := h
        refine R_if_eq 111 e_X1_readKite_4.2.2.2.2.2.2.2.2.1 (by decide) q15  (fun q => ?_) (fun q => ?_)
        · replace h := h.1 q
          refine R_aload_n e_X1_readKite_5.2.2.2.2.1 1 rfl ?_
          refine R_ldcS (i := 2) (-12) e_X1_readKite_5.2.2.2.2.2.1 rfl rfl ?_
          refine R_bipush e_X1_readKite_5.2.2.2.2.2.2.1 (by decide) ?_
          refine R_callV (mc := 0) (ms := 0) (mc' := 0) (ms' := 0) (M' := M_X1_readTrait) (d' := 5) (as := [vA G (-12), vI 9]) (st := []) 1 2 e_X1_readKite_5.2.2.2.2.2.2.2.1 (kCVof m_X1_readTrait l_X1_154) rfl (by decide) kx_57 (by decide) (by decide) rfl rfl (by show (0 : Nat) ≤ 8; decide) ?_
          refine Run.mono h (fun r16 s17 h => ?_)
          refine R_eqs (st2 := [vI r16]) rfl rfl ?_
          obtain ⟨q18, h⟩ := h
          refine R_if_eq 133 e_X1_readKite_5.2.2.2.2.2.2.2.2.1 (by decide) q18  (fun q => ?_) (fun q => ?_)
          · replace h := h.1 q
            refine R_ls (ls2 := [(0, vA G 57), (1, vA G (31 + 6 + (s8 31 5)))]) [1, 0] rfl ?_
            exact h
          · replace h := h.2 q
            refine R_aload_n e_X1_readKite_5.2.2.2.2.2.2.2.2.2 0 rfl ?_
            refine R_aload_n e_X1_readKite_6.1 1 rfl ?_
            refine R_getA 1 0 3 e_X1_readKite_6.2.1 f_X1_29 kx_57 (fun _ _ => rfl) rx_57_0 (by decide) ?_
            refine R_getI 6 7 7 e_X1_readKite_6.2.2.1 f_X1_108 kx_3 (fun _ _ => rfl) rfl ?_
            refine R_putI 3 4 4 WX_ok e_X1_readKite_6.2.2.2.1 f_X1_162 (kC_kite isC_31 q10) rfl rfl rfl ?_
            refine R_ls (ls2 := [(0, vA G 57), (1, vA G (31 + 6 + (s8 31 5)))]) [1, 0] rfl ?_
            exact h
        · replace h := h.2 q
          refine R_aload_n e_X1_readKite_4.2.2.2.2.2.2.2.2.2 0 rfl ?_
          refine R_aload_n e_X1_readKite_5.1 1 rfl ?_
          refine R_getA 1 0 3 e_X1_readKite_5.2.1 f_X1_29 kx_57 (fun _ _ => rfl) rx_57_0 (by decide) ?_
          refine R_getI 6 7 7 e_X1_readKite_5.2.2.1 f_X1_108 kx_3 (fun _ _ => rfl) rfl ?_
          refine R_putI 3 3 3 WX_ok e_X1_readKite_5.2.2.2.1 f_X1_158 (kC_kite isC_31 q10) rfl rfl rfl ?_
          refine R_aload_n e_X1_readKite_5.2.2.2.2.1 1 rfl ?_
          refine R_ldcS (i := 2) (-12) e_X1_readKite_5.2.2.2.2.2.1 rfl rfl ?_
          refine R_bipush e_X1_readKite_5.2.2.2.2.2.2.1 (by decide) ?_
          refine R_callV (mc := 0) (ms := 0) (mc' := 0) (ms' := 0) (M' := M_X1_readTrait) (d' := 5) (as := [vA G (-12), vI 9]) (st := []) 1 2 e_X1_readKite_5.2.2.2.2.2.2.2.1 (kCVof m_X1_readTrait l_X1_154) rfl (by decide) kx_57 (by decide) (by decide) rfl rfl (by show (0 : Nat) ≤ 8; decide) ?_
          refine Run.mono h (fun r19 s20 h => ?_)
          refine R_eqs (st2 := [vI r19]) rfl rfl ?_
          obtain ⟨q21, h⟩ := h
          refine R_if_eq 133 e_X1_readKite_5.2.2.2.2.2.2.2.2.1 (by decide) q21  (fun q => ?_) (fun q => ?_)
          · replace h := h.1 q
            refine R_ls (ls2 := [(0, vA G 57), (1, vA G (31 + 6 + (s8 31 5)))]) [1, 0] rfl ?_
            exact h
          · replace h := h.2 q
            refine R_aload_n e_X1_readKite_5.2.2.2.2.2.2.2.2.2 0 rfl ?_
            refine R_aload_n e_X1_readKite_6.1 1 rfl ?_
            refine R_getA 1 0 3 e_X1_readKite_6.2.1 f_X1_29 kx_57 (fun _ _ => rfl) rx_57_0 (by decide) ?_
            refine R_getI 6 7 7 e_X1_readKite_6.2.2.1 f_X1_108 kx_3 (fun _ _ => rfl) rfl ?_
            refine R_putI 3 4 4 WX_ok e_X1_readKite_6.2.2.2.1 f_X1_162 (kC_kite isC_31 q10) rfl rfl rfl ?_
            refine R_ls (ls2 := [(0, vA G 57), (1, vA G (31 + 6 + (s8 31 5)))]) [1, 0] rfl ?_
            exact h
      · replace h := h.2 q
        refine R_iconst e_X1_readKite_1.2.2.2.2.2.2.2.2.2 ?_
        exact R_zreturn e_X1_readKite_2.1 rfl (Or.inl rfl) h
  · replace h := h.2 q
    refine R_aload_n e_X1_readKite_0.2.2.2.2.2.1 0 rfl ?_
    refine R_getA 1 0 3 e_X1_readKite_0.2.2.2.2.2.2.1 f_X1_29 kx_57 (fun _ _ => rfl) rx_57_0 (by decide) ?_
    refine R_bipush e_X1_readKite_0.2.2.2.2.2.2.2.1 (by decide) ?_
    obtain ⟨q24, h⟩ := h
    refine R_callV (mc := 0) (ms := 0) (mc' := 0) (ms' := 0) (M' := M_X6_fail) (d' := 0) (as := [vI 6]) (st := []) 6 1 e_X1_readKite_0.2.2.2.2.2.2.2.2.1 (kCVof m_X6_fail l_X1_97) rfl (by decide) kx_3 (by decide) (by decide) rfl rfl (by show (0 : Nat) ≤ 8; decide) ?_
    refine Run.mono (P_X6_fail q24) (fun r s e => ?_)
    obtain ⟨e1, e2⟩ := e
    refine R_eqs (st2 := [vI 0]) (σ2 := (xF σ (6))) (by rw [e1]; rfl) e2 ?_
    exact R_zreturn e_X1_readKite_0.2.2.2.2.2.2.2.2.2 rfl (Or.inl rfl) h
theorem S_X1_readKite_133 {G : Kg} {σ : Kmem} {Q : Int → Kmem → Prop} {l1 : Int}  (hl1 : kIsX l1 3) (h : Run G WX M_X1_readTrait 5 0 0 [vA G 57, vA G (-13), vI 3] σ (fun r25 s26 => (rI r25) ∧ ((r25 = 0 → Run G WX M_X1_readTrait 5 0 0 [vA G 57, vA G (-14), vI 7] s26 (fun r28 s29 => (rI r28) ∧ ((r28 = 0 → (rI (s29 3 8)) ∧ ((s29 3 8 ≠ 0 → Q 0 s29) ∧ (s29 3 8 = 0 → Q 1 s29))) ∧ (r28 ≠ 0 → (rI ((kup s29 l1 6 (s29 3 7)) 3 8)) ∧ (((kup s29 l1 6 (s29 3 7)) 3 8 ≠ 0 → Q 0 (kup s29 l1 6 (s29 3 7))) ∧ ((kup s29 l1 6 (s29 3 7)) 3 8 = 0 → Q 1 (kup s29 l1 6 (s29 3 7)))))))) ∧ (r25 ≠ 0 → Run G WX M_X1_readTrait 5 0 0 [vA G 57, vA G (-14), vI 7] (kup s26 l1 5 (s26 3 7)) (fun r33 s34 => (rI r33) ∧ ((r33 = 0 → (rI (s34 3 8)) ∧ ((s34 3 8 ≠ 0 → Q 0 s34) ∧ (s34 3 8 = 0 → Q 1 s34))) ∧ (r33 ≠ 0 → (rI ((kup s34 l1 6 (s34 3 7)) 3 8)) ∧ (((kup s34 l1 6 (s34 3 7)) 3 8 ≠ 0 → Q 0 (kup s34 l1 6 (s34 3 7))) ∧ ((kup s34 l1 6 (s34 3 7)) 3 8 = 0 → Q 1 (kup s34 l1 6 (s34 3 7))))))))))) : E_X1_readKite_133 G l1 σ Q := by
  refine R_aload_n e_X1_readKite_6.2.2.2.2.1 0 rfl ?_
  refine R_ldcS (i := 3) (-13) e_X1_readKite_6.2.2.2.2.2.1 rfl rfl ?_
  refine R_iconst e_X1_readKite_6.2.2.2.2.2.2.1 ?_
  refine R_callV (mc := 0) (ms := 0) (mc' := 0) (ms' := 0) (M' := M_X1_readTrait) (d' := 5) (as := [vA G (-13), vI 3]) (st := []) 1 2 e_X1_readKite_6.2.2.2.2.2.2.2.1 (kCVof m_X1_readTrait l_X1_154) rfl (by decide) kx_57 (by decide) (by decide) rfl rfl (by show (0 : Nat) ≤ 8; decide) ?_
  refine Run.mono h (fun r25 s26 h => ?_)
  refine R_eqs (st2 := [vI r25]) rfl rfl ?_
  obtain ⟨q27, h⟩ := h
  refine R_if_eq 154 e_X1_readKite_6.2.2.2.2.2.2.2.2.1 (by decide) q27  (fun q => ?_) (fun q => ?_)
  · replace h := h.1 q
    refine R_aload_n e_X1_readKite_7.2.2.2.2.1 0 rfl ?_
    refine R_ldcS (i := 4) (-14) e_X1_readKite_7.2.2.2.2.2.1 rfl rfl ?_
    refine R_bipush e_X1_readKite_7.2.2.2.2.2.2.1 (by decide) ?_
    refine R_callV (mc := 0) (ms := 0) (mc' := 0) (ms' := 0) (M' := M_X1_readTrait) (d' := 5) (as := [vA G (-14), vI 7]) (st := []) 1 2 e_X1_readKite_7.2.2.2.2.2.2.2.1 (kCVof m_X1_readTrait l_X1_154) rfl (by decide) kx_57 (by decide) (by decide) rfl rfl (by show (0 : Nat) ≤ 8; decide) ?_
    refine Run.mono h (fun r28 s29 h => ?_)
    refine R_eqs (st2 := [vI r28]) rfl rfl ?_
    obtain ⟨q30, h⟩ := h
    refine R_if_eq 176 e_X1_readKite_7.2.2.2.2.2.2.2.2.1 (by decide) q30  (fun q => ?_) (fun q => ?_)
    · replace h := h.1 q
      refine R_aload_n e_X1_readKite_8.2.2.2.2.1 0 rfl ?_
      refine R_getA 1 0 3 e_X1_readKite_8.2.2.2.2.2.1 f_X1_29 kx_57 (fun _ _ => rfl) rx_57_0 (by decide) ?_
      refine R_getI 6 8 8 e_X1_readKite_8.2.2.2.2.2.2.1 f_X1_172 kx_3 (fun _ _ => rfl) rfl ?_
      obtain ⟨q31, h⟩ := h
      refine R_if_ne 190 e_X1_readKite_8.2.2.2.2.2.2.2.1 (by decide) q31  (fun q => ?_) (fun q => ?_)
      · replace h := h.1 q
        refine R_iconst e_X1_readKite_9.1 ?_
        exact R_zreturn e_X1_readKite_9.2 rfl (Or.inl rfl) h
      · replace h := h.2 q
        refine R_iconst e_X1_readKite_8.2.2.2.2.2.2.2.2.1 ?_
        refine R_goto 191 e_X1_readKite_8.2.2.2.2.2.2.2.2.2 (by decide) ?_
        exact R_zreturn e_X1_readKite_9.2 rfl (Or.inr rfl) h
    · replace h := h.2 q
      refine R_aload_n e_X1_readKite_7.2.2.2.2.2.2.2.2.2 1 rfl ?_
      refine R_aload_n e_X1_readKite_8.1 0 rfl ?_
      refine R_getA 1 0 3 e_X1_readKite_8.2.1 f_X1_29 kx_57 (fun _ _ => rfl) rx_57_0 (by decide) ?_
      refine R_getI 6 7 7 e_X1_readKite_8.2.2.1 f_X1_108 kx_3 (fun _ _ => rfl) rfl ?_
      refine R_putI 3 6 6 WX_ok e_X1_readKite_8.2.2.2.1 f_X1_170 (kLX hl1) rfl rfl rfl ?_
      refine R_aload_n e_X1_readKite_8.2.2.2.2.1 0 rfl ?_
      refine R_getA 1 0 3 e_X1_readKite_8.2.2.2.2.2.1 f_X1_29 kx_57 (fun _ _ => rfl) rx_57_0 (by decide) ?_
      refine R_getI 6 8 8 e_X1_readKite_8.2.2.2.2.2.2.1 f_X1_172 kx_3 (fun _ _ => rfl) rfl ?_
      obtain ⟨q32, h⟩ := h
      refine R_if_ne 190 e_X1_readKite_8.2.2.2.2.2.2.2.1 (by decide) q32  (fun q => ?_) (fun q => ?_)
      · replace h := h.1 q
        refine R_iconst e_X1_readKite_9.1 ?_
        exact R_zreturn e_X1_readKite_9.2 rfl (Or.inl rfl) h
      · replace h := h.2 q
        refine R_iconst e_X1_readKite_8.2.2.2.2.2.2.2.2.1 ?_
        refine R_goto 191 e_X1_readKite_8.2.2.2.2.2.2.2.2.2 (by decide) ?_
        exact R_zreturn e_X1_readKite_9.2 rfl (Or.inr rfl) h
  · replace h := h.2 q
    refine R_aload_n e_X1_readKite_6.2.2.2.2.2.2.2.2.2 1 rfl ?_
    refine R_aload_n e_X1_readKite_7.1 0 rfl ?_
    refine R_getA 1 0 3 e_X1_readKite_7.2.1 f_X1_29 kx_57 (fun _ _ => rfl) rx_57_0 (by decide) ?_
    refine R_getI 6 7 7 e_X1_readKite_7.2.2.1 f_X1_108 kx_3 (fun _ _ => rfl) rfl ?_
    refine R_putI 3 5 5 WX_ok e_X1_readKite_7.2.2.2.1 f_X1_166 (kLX hl1) rfl rfl rfl ?_
    refine R_aload_n e_X1_readKite_7.2.2.2.2.1 0 rfl ?_
    refine R_ldcS (i := 4) (-14) e_X1_readKite_7.2.2.2.2.2.1 rfl rfl ?_
    refine R_bipush e_X1_readKite_7.2.2.2.2.2.2.1 (by decide) ?_
    refine R_callV (mc := 0) (ms := 0) (mc' := 0) (ms' := 0) (M' := M_X1_readTrait) (d' := 5) (as := [vA G (-14), vI 7]) (st := []) 1 2 e_X1_readKite_7.2.2.2.2.2.2.2.1 (kCVof m_X1_readTrait l_X1_154) rfl (by decide) kx_57 (by decide) (by decide) rfl rfl (by show (0 : Nat) ≤ 8; decide) ?_
    refine Run.mono h (fun r33 s34 h => ?_)
    refine R_eqs (st2 := [vI r33]) rfl rfl ?_
    obtain ⟨q35, h⟩ := h
    refine R_if_eq 176 e_X1_readKite_7.2.2.2.2.2.2.2.2.1 (by decide) q35  (fun q => ?_) (fun q => ?_)
    · replace h := h.1 q
      refine R_aload_n e_X1_readKite_8.2.2.2.2.1 0 rfl ?_
      refine R_getA 1 0 3 e_X1_readKite_8.2.2.2.2.2.1 f_X1_29 kx_57 (fun _ _ => rfl) rx_57_0 (by decide) ?_
      refine R_getI 6 8 8 e_X1_readKite_8.2.2.2.2.2.2.1 f_X1_172 kx_3 (fun _ _ => rfl) rfl ?_
      obtain ⟨q36, h⟩ := h
      refine R_if_ne 190 e_X1_readKite_8.2.2.2.2.2.2.2.1 (by decide) q36  (fun q => ?_) (fun q => ?_)
      · replace h := h.1 q
        refine R_iconst e_X1_readKite_9.1 ?_
        exact R_zreturn e_X1_readKite_9.2 rfl (Or.inl rfl) h
      · replace h := h.2 q
        refine R_iconst e_X1_readKite_8.2.2.2.2.2.2.2.2.1 ?_
        refine R_goto 191 e_X1_readKite_8.2.2.2.2.2.2.2.2.2 (by decide) ?_
        exact R_zreturn e_X1_readKite_9.2 rfl (Or.inr rfl) h
    · replace h := h.2 q
      refine R_aload_n e_X1_readKite_7.2.2.2.2.2.2.2.2.2 1 rfl ?_
      refine R_aload_n e_X1_readKite_8.1 0 rfl ?_
      refine R_getA 1 0 3 e_X1_readKite_8.2.1 f_X1_29 kx_57 (fun _ _ => rfl) rx_57_0 (by decide) ?_
      refine R_getI 6 7 7 e_X1_readKite_8.2.2.1 f_X1_108 kx_3 (fun _ _ => rfl) rfl ?_
      refine R_putI 3 6 6 WX_ok e_X1_readKite_8.2.2.2.1 f_X1_170 (kLX hl1) rfl rfl rfl ?_
      refine R_aload_n e_X1_readKite_8.2.2.2.2.1 0 rfl ?_
      refine R_getA 1 0 3 e_X1_readKite_8.2.2.2.2.2.1 f_X1_29 kx_57 (fun _ _ => rfl) rx_57_0 (by decide) ?_
      refine R_getI 6 8 8 e_X1_readKite_8.2.2.2.2.2.2.1 f_X1_172 kx_3 (fun _ _ => rfl) rfl ?_
      obtain ⟨q37, h⟩ := h
      refine R_if_ne 190 e_X1_readKite_8.2.2.2.2.2.2.2.1 (by decide) q37  (fun q => ?_) (fun q => ?_)
      · replace h := h.1 q
        refine R_iconst e_X1_readKite_9.1 ?_
        exact R_zreturn e_X1_readKite_9.2 rfl (Or.inl rfl) h
      · replace h := h.2 q
        refine R_iconst e_X1_readKite_8.2.2.2.2.2.2.2.2.1 ?_
        refine R_goto 191 e_X1_readKite_8.2.2.2.2.2.2.2.2.2 (by decide) ?_
        exact R_zreturn e_X1_readKite_9.2 rfl (Or.inr rfl) h
/-! KiteLand$CountyReader.readCrop()Z -/
theorem e_X1_readCrop_0 : decode cX1_readCrop 0 = .ok (.aload_n 0, 1) ∧ decode cX1_readCrop 1 = .ok (.getfield 33, 3) ∧ decode cX1_readCrop 4 = .ok (.getfield 175, 3) ∧ decode cX1_readCrop 7 = .ok (.bipush 8, 2) ∧ decode cX1_readCrop 9 = .ok (.if_icmp .lt 13, 3) ∧ decode cX1_readCrop 12 = .ok (.aload_n 0, 1) ∧ decode cX1_readCrop 13 = .ok (.getfield 29, 3) ∧ decode cX1_readCrop 16 = .ok (.bipush 6, 2) ∧ decode cX1_readCrop 18 = .ok (.invokevirtual 97, 3) ∧ decode cX1_readCrop 21 = .ok (.ireturn, 1) := by decide +kernel
theorem e_X1_readCrop_1 : decode cX1_readCrop 22 = .ok (.aload_n 0, 1) ∧ decode cX1_readCrop 23 = .ok (.getfield 29, 3) ∧ decode cX1_readCrop 26 = .ok (.invokevirtual 119, 3) ∧ decode cX1_readCrop 29 = .ok (.aload_n 0, 1) ∧ decode cX1_readCrop 30 = .ok (.invokevirtual 136, 3) ∧ decode cX1_readCrop 33 = .ok (.ifCond .eq 10, 3) ∧ decode cX1_readCrop 36 = .ok (.aload_n 0, 1) ∧ decode cX1_readCrop 37 = .ok (.invokevirtual 139, 3) ∧ decode cX1_readCrop 40 = .ok (.ifCond .ne 5, 3) ∧ decode cX1_readCrop 43 = .ok (.iconst 0, 1) := by decide +kernel
theorem e_X1_readCrop_2 : decode cX1_readCrop 44 = .ok (.ireturn, 1) ∧ decode cX1_readCrop 45 = .ok (.aload_n 0, 1) ∧ decode cX1_readCrop 46 = .ok (.getfield 29, 3) ∧ decode cX1_readCrop 49 = .ok (.ldc 178, 2) ∧ decode cX1_readCrop 51 = .ok (.invokevirtual 101, 3) ∧ decode cX1_readCrop 54 = .ok (.ifCond .eq 16, 3) ∧ decode cX1_readCrop 57 = .ok (.aload_n 0, 1) ∧ decode cX1_readCrop 58 = .ok (.getfield 29, 3) ∧ decode cX1_readCrop 61 = .ok (.iconst 1, 1) ∧ decode cX1_readCrop 62 = .ok (.bipush 99, 2) := by decide +kernel
theorem e_X1_readCrop_3 : decode cX1_readCrop 64 = .ok (.invokevirtual 104, 3) ∧ decode cX1_readCrop 67 = .ok (.ifCond .ne 5, 3) ∧ decode cX1_readCrop 70 = .ok (.iconst 0, 1) ∧ decode cX1_readCrop 71 = .ok (.ireturn, 1) ∧ decode cX1_readCrop 72 = .ok (.aload_n 0, 1) ∧ decode cX1_readCrop 73 = .ok (.getfield 33, 3) ∧ decode cX1_readCrop 76 = .ok (.getfield 180, 3) ∧ decode cX1_readCrop 79 = .ok (.aload_n 0, 1) ∧ decode cX1_readCrop 80 = .ok (.getfield 33, 3) ∧ decode cX1_readCrop 83 = .ok (.getfield 175, 3) := by decide +kernel
theorem e_X1_readCrop_4 : decode cX1_readCrop 86 = .ok (.aaload, 1) ∧ decode cX1_readCrop 87 = .ok (.aload_n 0, 1) ∧ decode cX1_readCrop 88 = .ok (.getfield 18, 3) ∧ decode cX1_readCrop 91 = .ok (.aload_n 0, 1) ∧ decode cX1_readCrop 92 = .ok (.getfield 22, 3) ∧ decode cX1_readCrop 95 = .ok (.aload_n 0, 1) ∧ decode cX1_readCrop 96 = .ok (.getfield 26, 3) ∧ decode cX1_readCrop 99 = .ok (.aload_n 0, 1) ∧ decode cX1_readCrop 100 = .ok (.getfield 29, 3) ∧ decode cX1_readCrop 103 = .ok (.getfield 108, 3) := by decide +kernel
theorem e_X1_readCrop_5 : decode cX1_readCrop 106 = .ok (.invokevirtual 184, 3) ∧ decode cX1_readCrop 109 = .ok (.aload_n 0, 1) ∧ decode cX1_readCrop 110 = .ok (.getfield 33, 3) ∧ decode cX1_readCrop 113 = .ok (.dup, 1) ∧ decode cX1_readCrop 114 = .ok (.getfield 175, 3) ∧ decode cX1_readCrop 117 = .ok (.iconst 1, 1) ∧ decode cX1_readCrop 118 = .ok (.iadd, 1) ∧ decode cX1_readCrop 119 = .ok (.putfield 175, 3) ∧ decode cX1_readCrop 122 = .ok (.iconst 1, 1) ∧ decode cX1_readCrop 123 = .ok (.ireturn, 1) := by decide +kernel
theorem S_X1_readCrop {G : Kg} {σ : Kmem} {Q : Int → Kmem → Prop}  (h : (rI (σ 31 6)) ∧ ((σ 31 6 < 8 → Run G WX M_X6_next 1 0 0 [vA G 3] σ (fun r2 s3 => Run G WX M_X1_readNewName 6 0 0 [vA G 57] s3 (fun r4 s5 => (rI r4) ∧ ((r4 = 0 → Q 0 s5) ∧ (r4 ≠ 0 → Run G WX M_X1_readField 6 0 0 [vA G 57] s5 (fun r7 s8 => (rI r7) ∧ ((r7 ≠ 0 → Run G WX M_X6_takeWord 5 0 0 [vA G 3, vA G (-15)] s8 (fun r10 s11 => (rI r10) ∧ ((r10 = 0 → Q 0 s11) ∧ (r10 ≠ 0 → Run G WX M_X6_takeNumber 2 0 0 [vA G 3, vI 1, vI 99] s11 (fun r13 s14 => (rI r13) ∧ ((r13 ≠ 0 → (0 ≤ s14 31 6 ∧ s14 31 6 < 8) ∧ Run G WX M_X2_begin 0 0 0 [vA G (31 + 12 + (s14 31 6)), vL (s14 57 4), vI (s14 57 5), vI (s14 57 6), vI (s14 3 7)] s14 (fun r17 s18 => Q 1 (kup s18 31 6 ((s18 31 6) + 1)))) ∧ (r13 = 0 → Q 0 s14))))))) ∧ (r7 = 0 → Q 0 s8)))))))) ∧ (8 ≤ σ 31 6 → (rI (σ 3 2)) ∧ Q 0 (xF σ (6))))) : Run G WX M_X1_readCrop 7 0 0 [vA G 57] σ Q := by
  refine Run.of (by decide +kernel) (by show (1 : Nat) ≤ 1; decide) ?_
  show Ex G WX M_X1_readCrop 7 0 0 0 [(0, vA G 57)] [] σ Q
  refine R_aload_n e_X1_readCrop_0.1 0 rfl ?_
  refine R_getA 1 1 31 e_X1_readCrop_0.2.1 f_X1_33 kx_57 (fun _ _ => rfl) rx_57_1 (by decide) ?_
  refine R_getI 0 6 6 e_X1_readCrop_0.2.2.1 f_X1_175 (kC_self isC_31) (fun _ _ => rfl) rfl ?_
  refine R_bipush e_X1_readCrop_0.2.2.2.1 (by decide) ?_
  obtain ⟨q1, h⟩ := h
  refine R_icmp_lt 22 e_X1_readCrop_0.2.2.2.2.1 (by decide) q1 (by decide) (fun q => ?_) (fun q => ?_)
  · replace h := h.1 q
    refine R_aload_n e_X1_readCrop_1.1 0 rfl ?_
    refine R_getA 1 0 3 e_X1_readCrop_1.2.1 f_X1_29 kx_57 (fun _ _ => rfl) rx_57_0 (by decide) ?_
    refine R_callV (mc := 0) (ms := 0) (mc' := 0) (ms' := 0) (M' := M_X6_next) (d' := 1) (as := []) (st := []) 6 0 e_X1_readCrop_1.2.2.1 (kCVof m_X6_next l_X1_119) rfl (by decide) kx_3 (by decide) (by decide) rfl rfl (by show (0 : Nat) ≤ 8; decide) ?_
    refine Run.mono h (fun r2 s3 h => ?_)
    refine R_eqs (st2 := []) rfl rfl ?_
    refine R_aload_n e_X1_readCrop_1.2.2.2.1 0 rfl ?_
    refine R_callV (mc := 0) (ms := 0) (mc' := 0) (ms' := 0) (M' := M_X1_readNewName) (d' := 6) (as := []) (st := []) 1 0 e_X1_readCrop_1.2.2.2.2.1 (kCVof m_X1_readNewName l_X1_136) rfl (by decide) kx_57 (by decide) (by decide) rfl rfl (by show (0 : Nat) ≤ 8; decide) ?_
    refine Run.mono h (fun r4 s5 h => ?_)
    refine R_eqs (st2 := [vI r4]) rfl rfl ?_
    obtain ⟨q6, h⟩ := h
    refine R_if_eq 43 e_X1_readCrop_1.2.2.2.2.2.1 (by decide) q6  (fun q => ?_) (fun q => ?_)
    · replace h := h.1 q
      refine R_iconst e_X1_readCrop_1.2.2.2.2.2.2.2.2.2 ?_
      exact R_zreturn e_X1_readCrop_2.1 rfl (Or.inl rfl) h
    · replace h := h.2 q
      refine R_aload_n e_X1_readCrop_1.2.2.2.2.2.2.1 0 rfl ?_
      refine R_callV (mc := 0) (ms := 0) (mc' := 0) (ms' := 0) (M' := M_X1_readField) (d' := 6) (as := []) (st := []) 1 0 e_X1_readCrop_1.2.2.2.2.2.2.2.1 (kCVof m_X1_readField l_X1_139) rfl (by decide) kx_57 (by decide) (by decide) rfl rfl (by show (0 : Nat) ≤ 8; decide) ?_
      refine Run.mono h (fun r7 s8 h => ?_)
      refine R_eqs (st2 := [vI r7]) rfl rfl ?_
      obtain ⟨q9, h⟩ := h
      refine R_if_ne 45 e_X1_readCrop_1.2.2.2.2.2.2.2.2.1 (by decide) q9  (fun q => ?_) (fun q => ?_)
      · replace h := h.1 q
        refine R_aload_n e_X1_readCrop_2.2.1 0 rfl ?_
        refine R_getA 1 0 3 e_X1_readCrop_2.2.2.1 f_X1_29 kx_57 (fun _ _ => rfl) rx_57_0 (by decide) ?_
        refine R_ldcS (i := 5) (-15) e_X1_readCrop_2.2.2.2.1 rfl rfl ?_
        refine R_callV (mc := 0) (ms := 0) (mc' := 0) (ms' := 0) (M' := M_X6_takeWord) (d' := 5) (as := [vA G (-15)]) (st := []) 6 1 e_X1_readCrop_2.2.2.2.2.1 (kCVof m_X6_takeWord l_X1_101) rfl (by decide) kx_3 (by decide) (by decide) rfl rfl (by show (0 : Nat) ≤ 8; decide) ?_
        refine Run.mono h (fun r10 s11 h => ?_)
        refine R_eqs (st2 := [vI r10]) rfl rfl ?_
        obtain ⟨q12, h⟩ := h
        refine R_if_eq 70 e_X1_readCrop_2.2.2.2.2.2.1 (by decide) q12  (fun q => ?_) (fun q => ?_)
        · replace h := h.1 q
          refine R_iconst e_X1_readCrop_3.2.2.1 ?_
          exact R_zreturn e_X1_readCrop_3.2.2.2.1 rfl (Or.inl rfl) h
        · replace h := h.2 q
          refine R_aload_n e_X1_readCrop_2.2.2.2.2.2.2.1 0 rfl ?_
          refine R_getA 1 0 3 e_X1_readCrop_2.2.2.2.2.2.2.2.1 f_X1_29 kx_57 (fun _ _ => rfl) rx_57_0 (by decide) ?_
          refine R_iconst e_X1_readCrop_2.2.2.2.2.2.2.2.2.1 ?_
          refine R_bipush e_X1_readCrop_2.2.2.2.2.2.2.2.2.2 (by decide) ?_
          refine R_callV (mc := 0) (ms := 0) (mc' := 0) (ms' := 0) (M' := M_X6_takeNumber) (d' := 2) (as := [vI 1, vI 99]) (st := []) 6 2 e_X1_readCrop_3.1 (kCVof m_X6_takeNumber l_X1_104) rfl (by decide) kx_3 (by decide) (by decide) rfl rfl (by show (0 : Nat) ≤ 8; decide) ?_
          refine Run.mono h (fun r13 s14 h => ?_)
          refine R_eqs (st2 := [vI r13]) rfl rfl ?_
          obtain ⟨q15, h⟩ := h
          refine R_if_ne 72 e_X1_readCrop_3.2.1 (by decide) q15  (fun q => ?_) (fun q => ?_)
          · replace h := h.1 q
            refine R_aload_n e_X1_readCrop_3.2.2.2.2.1 0 rfl ?_
            refine R_getA 1 1 31 e_X1_readCrop_3.2.2.2.2.2.1 f_X1_33 kx_57 (fun _ _ => rfl) rx_57_1 (by decide) ?_
            refine R_getA 0 11 (31 + 4) e_X1_readCrop_3.2.2.2.2.2.2.1 f_X1_180 (kC_self isC_31) (fun _ _ => rfl) (kC_r11 isC_31) (kC_n4 isC_31) ?_
            refine R_aload_n e_X1_readCrop_3.2.2.2.2.2.2.2.1 0 rfl ?_
            refine R_getA 1 1 31 e_X1_readCrop_3.2.2.2.2.2.2.2.2.1 f_X1_33 kx_57 (fun _ _ => rfl) rx_57_1 (by decide) ?_
            refine R_getI 0 6 6 e_X1_readCrop_3.2.2.2.2.2.2.2.2.2 f_X1_175 (kC_self isC_31) (fun _ _ => rfl) rfl ?_
            obtain ⟨q16, h⟩ := h
            refine R_aald 28 8 (31 + 12 + (s14 31 6)) e_X1_readCrop_4.1 (by decide) (kC_crops isC_31) q16 (kC_cropAt isC_31 q16) (kC_cropN isC_31 q16) ?_
            refine R_aload_n e_X1_readCrop_4.2.1 0 rfl ?_
            refine R_getL 1 4 4 e_X1_readCrop_4.2.2.1 f_X1_18 kx_57 (fun _ _ => rfl) rfl ?_
            refine R_aload_n e_X1_readCrop_4.2.2.2.1 0 rfl ?_
            refine R_getI 1 5 5 e_X1_readCrop_4.2.2.2.2.1 f_X1_22 kx_57 (fun _ _ => rfl) rfl ?_
            refine R_aload_n e_X1_readCrop_4.2.2.2.2.2.1 0 rfl ?_
            refine R_getI 1 6 6 e_X1_readCrop_4.2.2.2.2.2.2.1 f_X1_26 kx_57 (fun _ _ => rfl) rfl ?_
            refine R_aload_n e_X1_readCrop_4.2.2.2.2.2.2.2.1 0 rfl ?_
            refine R_getA 1 0 3 e_X1_readCrop_4.2.2.2.2.2.2.2.2.1 f_X1_29 kx_57 (fun _ _ => rfl) rx_57_0 (by decide) ?_
            refine R_getI 6 7 7 e_X1_readCrop_4.2.2.2.2.2.2.2.2.2 f_X1_108 kx_3 (fun _ _ => rfl) rfl ?_
            refine R_callV (mc := 0) (ms := 0) (mc' := 0) (ms' := 0) (M' := M_X2_begin) (d' := 0) (as := [vL (s14 57 4), vI (s14 57 5), vI (s14 57 6), vI (s14 3 7)]) (st := []) 2 4 e_X1_readCrop_5.1 (kCVof m_X2_begin l_X1_184) rfl (by decide) (kC_crop isC_31 q16) (by decide) (by decide) rfl rfl (by show (0 : Nat) ≤ 8; decide) ?_
            refine Run.mono h (fun r17 s18 h => ?_)
            refine R_eqs (st2 := []) rfl rfl ?_
            refine R_aload_n e_X1_readCrop_5.2.1 0 rfl ?_
            refine R_getA 1 1 31 e_X1_readCrop_5.2.2.1 f_X1_33 kx_57 (fun _ _ => rfl) rx_57_1 (by decide) ?_
            refine R_dup e_X1_readCrop_5.2.2.2.1 rfl ?_
            refine R_getI 0 6 6 e_X1_readCrop_5.2.2.2.2.1 f_X1_175 (kC_self isC_31) (fun _ _ => rfl) rfl ?_
            refine R_iconst e_X1_readCrop_5.2.2.2.2.2.1 ?_
            refine R_iadd e_X1_readCrop_5.2.2.2.2.2.2.1 ?_
            refine R_putI 0 6 6 WX_ok e_X1_readCrop_5.2.2.2.2.2.2.2.1 f_X1_175 (kC_self isC_31) rfl rfl rfl ?_
            refine R_iconst e_X1_readCrop_5.2.2.2.2.2.2.2.2.1 ?_
            exact R_zreturn e_X1_readCrop_5.2.2.2.2.2.2.2.2.2 rfl (Or.inr rfl) h
          · replace h := h.2 q
            refine R_iconst e_X1_readCrop_3.2.2.1 ?_
            exact R_zreturn e_X1_readCrop_3.2.2.2.1 rfl (Or.inl rfl) h
      · replace h := h.2 q
        refine R_iconst e_X1_readCrop_1.2.2.2.2.2.2.2.2.2 ?_
        exact R_zreturn e_X1_readCrop_2.1 rfl (Or.inl rfl) h
  · replace h := h.2 q
    refine R_aload_n e_X1_readCrop_0.2.2.2.2.2.1 0 rfl ?_
    refine R_getA 1 0 3 e_X1_readCrop_0.2.2.2.2.2.2.1 f_X1_29 kx_57 (fun _ _ => rfl) rx_57_0 (by decide) ?_
    refine R_bipush e_X1_readCrop_0.2.2.2.2.2.2.2.1 (by decide) ?_
    obtain ⟨q21, h⟩ := h
    refine R_callV (mc := 0) (ms := 0) (mc' := 0) (ms' := 0) (M' := M_X6_fail) (d' := 0) (as := [vI 6]) (st := []) 6 1 e_X1_readCrop_0.2.2.2.2.2.2.2.2.1 (kCVof m_X6_fail l_X1_97) rfl (by decide) kx_3 (by decide) (by decide) rfl rfl (by show (0 : Nat) ≤ 8; decide) ?_
    refine Run.mono (P_X6_fail q21) (fun r s e => ?_)
    obtain ⟨e1, e2⟩ := e
    refine R_eqs (st2 := [vI 0]) (σ2 := (xF σ (6))) (by rw [e1]; rfl) e2 ?_
    exact R_zreturn e_X1_readCrop_0.2.2.2.2.2.2.2.2.2 rfl (Or.inl rfl) h
/-! KiteLand$CountyReader.readTenant()Z -/
theorem e_X1_readTenant_0 : decode cX1_readTenant 0 = .ok (.aload_n 0, 1) ∧ decode cX1_readTenant 1 = .ok (.getfield 33, 3) ∧ decode cX1_readTenant 4 = .ok (.getfield 189, 3) ∧ decode cX1_readTenant 7 = .ok (.bipush 6, 2) ∧ decode cX1_readTenant 9 = .ok (.if_icmp .lt 13, 3) ∧ decode cX1_readTenant 12 = .ok (.aload_n 0, 1) ∧ decode cX1_readTenant 13 = .ok (.getfield 29, 3) ∧ decode cX1_readTenant 16 = .ok (.bipush 6, 2) ∧ decode cX1_readTenant 18 = .ok (.invokevirtual 97, 3) ∧ decode cX1_readTenant 21 = .ok (.ireturn, 1) := by decide +kernel
theorem e_X1_readTenant_1 : decode cX1_readTenant 22 = .ok (.aload_n 0, 1) ∧ decode cX1_readTenant 23 = .ok (.getfield 29, 3) ∧ decode cX1_readTenant 26 = .ok (.invokevirtual 119, 3) ∧ decode cX1_readTenant 29 = .ok (.aload_n 0, 1) ∧ decode cX1_readTenant 30 = .ok (.invokevirtual 136, 3) ∧ decode cX1_readTenant 33 = .ok (.ifCond .eq 32, 3) ∧ decode cX1_readTenant 36 = .ok (.aload_n 0, 1) ∧ decode cX1_readTenant 37 = .ok (.invokevirtual 139, 3) ∧ decode cX1_readTenant 40 = .ok (.ifCond .eq 25, 3) ∧ decode cX1_readTenant 43 = .ok (.aload_n 0, 1) := by decide +kernel
theorem e_X1_readTenant_2 : decode cX1_readTenant 44 = .ok (.getfield 29, 3) ∧ decode cX1_readTenant 47 = .ok (.ldc 192, 2) ∧ decode cX1_readTenant 49 = .ok (.invokevirtual 101, 3) ∧ decode cX1_readTenant 52 = .ok (.ifCond .eq 13, 3) ∧ decode cX1_readTenant 55 = .ok (.aload_n 0, 1) ∧ decode cX1_readTenant 56 = .ok (.getfield 29, 3) ∧ decode cX1_readTenant 59 = .ok (.invokevirtual 194, 3) ∧ decode cX1_readTenant 62 = .ok (.ifCond .ne 5, 3) ∧ decode cX1_readTenant 65 = .ok (.iconst 0, 1) ∧ decode cX1_readTenant 66 = .ok (.ireturn, 1) := by decide +kernel
theorem e_X1_readTenant_3 : decode cX1_readTenant 67 = .ok (.aload_n 0, 1) ∧ decode cX1_readTenant 68 = .ok (.getfield 33, 3) ∧ decode cX1_readTenant 71 = .ok (.aload_n 0, 1) ∧ decode cX1_readTenant 72 = .ok (.getfield 29, 3) ∧ decode cX1_readTenant 75 = .ok (.getfield 197, 3) ∧ decode cX1_readTenant 78 = .ok (.invokevirtual 198, 3) ∧ decode cX1_readTenant 81 = .ok (.istore_n 1, 1) ∧ decode cX1_readTenant 82 = .ok (.iload_n 1, 1) ∧ decode cX1_readTenant 83 = .ok (.iconst (-1), 1) ∧ decode cX1_readTenant 84 = .ok (.if_icmp .ne 12, 3) := by decide +kernel
theorem e_X1_readTenant_4 : decode cX1_readTenant 87 = .ok (.aload_n 0, 1) ∧ decode cX1_readTenant 88 = .ok (.getfield 29, 3) ∧ decode cX1_readTenant 91 = .ok (.iconst 3, 1) ∧ decode cX1_readTenant 92 = .ok (.invokevirtual 97, 3) ∧ decode cX1_readTenant 95 = .ok (.ireturn, 1) ∧ decode cX1_readTenant 96 = .ok (.aload_n 0, 1) ∧ decode cX1_readTenant 97 = .ok (.getfield 29, 3) ∧ decode cX1_readTenant 100 = .ok (.invokevirtual 119, 3) ∧ decode cX1_readTenant 103 = .ok (.aload_n 0, 1) ∧ decode cX1_readTenant 104 = .ok (.getfield 33, 3) := by decide +kernel
theorem e_X1_readTenant_5 : decode cX1_readTenant 107 = .ok (.getfield 202, 3) ∧ decode cX1_readTenant 110 = .ok (.aload_n 0, 1) ∧ decode cX1_readTenant 111 = .ok (.getfield 33, 3) ∧ decode cX1_readTenant 114 = .ok (.getfield 189, 3) ∧ decode cX1_readTenant 117 = .ok (.aaload, 1) ∧ decode cX1_readTenant 118 = .ok (.aload_n 0, 1) ∧ decode cX1_readTenant 119 = .ok (.getfield 18, 3) ∧ decode cX1_readTenant 122 = .ok (.aload_n 0, 1) ∧ decode cX1_readTenant 123 = .ok (.getfield 22, 3) ∧ decode cX1_readTenant 126 = .ok (.aload_n 0, 1) := by decide +kernel
theorem e_X1_readTenant_6 : decode cX1_readTenant 127 = .ok (.getfield 26, 3) ∧ decode cX1_readTenant 130 = .ok (.iload_n 1, 1) ∧ decode cX1_readTenant 131 = .ok (.invokevirtual 206, 3) ∧ decode cX1_readTenant 134 = .ok (.aload_n 0, 1) ∧ decode cX1_readTenant 135 = .ok (.getfield 33, 3) ∧ decode cX1_readTenant 138 = .ok (.dup, 1) ∧ decode cX1_readTenant 139 = .ok (.getfield 189, 3) ∧ decode cX1_readTenant 142 = .ok (.iconst 1, 1) ∧ decode cX1_readTenant 143 = .ok (.iadd, 1) ∧ decode cX1_readTenant 144 = .ok (.putfield 189, 3) := by decide +kernel
theorem e_X1_readTenant_7 : decode cX1_readTenant 147 = .ok (.iconst 1, 1) ∧ decode cX1_readTenant 148 = .ok (.ireturn, 1) := by decide +kernel
theorem S_X1_readTenant {G : Kg} {σ : Kmem} {Q : Int → Kmem → Prop}  (h : (rI (σ 31 7)) ∧ ((σ 31 7 < 6 → Run G WX M_X6_next 1 0 0 [vA G 3] σ (fun r2 s3 => Run G WX M_X1_readNewName 6 0 0 [vA G 57] s3 (fun r4 s5 => (rI r4) ∧ ((r4 = 0 → Q 0 s5) ∧ (r4 ≠ 0 → Run G WX M_X1_readField 6 0 0 [vA G 57] s5 (fun r7 s8 => (rI r7) ∧ ((r7 = 0 → Q 0 s8) ∧ (r7 ≠ 0 → Run G WX M_X6_takeWord 5 0 0 [vA G 3, vA G (-16)] s8 (fun r10 s11 => (rI r10) ∧ ((r10 = 0 → Q 0 s11) ∧ (r10 ≠ 0 → Run G WX M_X6_isNameHere 5 0 0 [vA G 3] s11 (fun r13 s14 => (rI r13) ∧ ((r13 ≠ 0 → Run G WX M_X0_kiteNamed 0 0 0 [vA G 31, vL (s14 3 6)] s14 (fun r16 s17 => (rI r16) ∧ ((r16 ≠ -1 → Run G WX M_X6_next 1 0 0 [vA G 3] s17 (fun r19 s20 => (0 ≤ s20 31 7 ∧ s20 31 7 < 6) ∧ Run G WX M_X9_begin 0 0 0 [vA G (31 + 20 + (s20 31 7)), vL (s20 57 4), vI (s20 57 5), vI (s20 57 6), vI r16] s20 (fun r22 s23 => Q 1 (kup s23 31 7 ((s23 31 7) + 1))))) ∧ (r16 = -1 → (rI (s17 3 2)) ∧ Q 0 (xF s17 (3)))))) ∧ (r13 = 0 → Q 0 s14)))))))))))))) ∧ (6 ≤ σ 31 7 → (rI (σ 3 2)) ∧ Q 0 (xF σ (6))))) : Run G WX M_X1_readTenant 7 0 0 [vA G 57] σ Q := by
  refine Run.of (by decide +kernel) (by show (1 : Nat) ≤ 2; decide) ?_
  show Ex G WX M_X1_readTenant 7 0 0 0 [(0, vA G 57)] [] σ Q
  refine R_aload_n e_X1_readTenant_0.1 0 rfl ?_
  refine R_getA 1 1 31 e_X1_readTenant_0.2.1 f_X1_33 kx_57 (fun _ _ => rfl) rx_57_1 (by decide) ?_
  refine R_getI 0 7 7 e_X1_readTenant_0.2.2.1 f_X1_189 (kC_self isC_31) (fun _ _ => rfl) rfl ?_
  refine R_bipush e_X1_readTenant_0.2.2.2.1 (by decide) ?_
  obtain ⟨q1, h⟩ := h
  refine R_icmp_lt 22 e_X1_readTenant_0.2.2.2.2.1 (by decide) q1 (by decide) (fun q => ?_) (fun q => ?_)
  · replace h := h.1 q
    refine R_aload_n e_X1_readTenant_1.1 0 rfl ?_
    refine R_getA 1 0 3 e_X1_readTenant_1.2.1 f_X1_29 kx_57 (fun _ _ => rfl) rx_57_0 (by decide) ?_
    refine R_callV (mc := 0) (ms := 0) (mc' := 0) (ms' := 0) (M' := M_X6_next) (d' := 1) (as := []) (st := []) 6 0 e_X1_readTenant_1.2.2.1 (kCVof m_X6_next l_X1_119) rfl (by decide) kx_3 (by decide) (by decide) rfl rfl (by show (0 : Nat) ≤ 8; decide) ?_
    refine Run.mono h (fun r2 s3 h => ?_)
    refine R_eqs (st2 := []) rfl rfl ?_
    refine R_aload_n e_X1_readTenant_1.2.2.2.1 0 rfl ?_
    refine R_callV (mc := 0) (ms := 0) (mc' := 0) (ms' := 0) (M' := M_X1_readNewName) (d' := 6) (as := []) (st := []) 1 0 e_X1_readTenant_1.2.2.2.2.1 (kCVof m_X1_readNewName l_X1_136) rfl (by decide) kx_57 (by decide) (by decide) rfl rfl (by show (0 : Nat) ≤ 8; decide) ?_
    refine Run.mono h (fun r4 s5 h => ?_)
    refine R_eqs (st2 := [vI r4]) rfl rfl ?_
    obtain ⟨q6, h⟩ := h
    refine R_if_eq 65 e_X1_readTenant_1.2.2.2.2.2.1 (by decide) q6  (fun q => ?_) (fun q => ?_)
    · replace h := h.1 q
      refine R_iconst e_X1_readTenant_2.2.2.2.2.2.2.2.2.1 ?_
      exact R_zreturn e_X1_readTenant_2.2.2.2.2.2.2.2.2.2 rfl (Or.inl rfl) h
    · replace h := h.2 q
      refine R_aload_n e_X1_readTenant_1.2.2.2.2.2.2.1 0 rfl ?_
      refine R_callV (mc := 0) (ms := 0) (mc' := 0) (ms' := 0) (M' := M_X1_readField) (d' := 6) (as := []) (st := []) 1 0 e_X1_readTenant_1.2.2.2.2.2.2.2.1 (kCVof m_X1_readField l_X1_139) rfl (by decide) kx_57 (by decide) (by decide) rfl rfl (by show (0 : Nat) ≤ 8; decide) ?_
      refine Run.mono h (fun r7 s8 h => ?_)
      refine R_eqs (st2 := [vI r7]) rfl rfl ?_
      obtain ⟨q9, h⟩ := h
      refine R_if_eq 65 e_X1_readTenant_1.2.2.2.2.2.2.2.2.1 (by decide) q9  (fun q => ?_) (fun q => ?_)
      · replace h := h.1 q
        refine R_iconst e_X1_readTenant_2.2.2.2.2.2.2.2.2.1 ?_
        exact R_zreturn e_X1_readTenant_2.2.2.2.2.2.2.2.2.2 rfl (Or.inl rfl) h
      · replace h := h.2 q
        refine R_aload_n e_X1_readTenant_1.2.2.2.2.2.2.2.2.2 0 rfl ?_
        refine R_getA 1 0 3 e_X1_readTenant_2.1 f_X1_29 kx_57 (fun _ _ => rfl) rx_57_0 (by decide) ?_
        refine R_ldcS (i := 6) (-16) e_X1_readTenant_2.2.1 rfl rfl ?_
        refine R_callV (mc := 0) (ms := 0) (mc' := 0) (ms' := 0) (M' := M_X6_takeWord) (d' := 5) (as := [vA G (-16)]) (st := []) 6 1 e_X1_readTenant_2.2.2.1 (kCVof m_X6_takeWord l_X1_101) rfl (by decide) kx_3 (by decide) (by decide) rfl rfl (by show (0 : Nat) ≤ 8; decide) ?_
        refine Run.mono h (fun r10 s11 h => ?_)
        refine R_eqs (st2 := [vI r10]) rfl rfl ?_
        obtain ⟨q12, h⟩ := h
        refine R_if_eq 65 e_X1_readTenant_2.2.2.2.1 (by decide) q12  (fun q => ?_) (fun q => ?_)
        · replace h := h.1 q
          refine R_iconst e_X1_readTenant_2.2.2.2.2.2.2.2.2.1 ?_
          exact R_zreturn e_X1_readTenant_2.2.2.2.2.2.2.2.2.2 rfl (Or.inl rfl) h
        · replace h := h.2 q
          refine R_aload_n e_X1_readTenant_2.2.2.2.2.1 0 rfl ?_
          refine R_getA 1 0 3 e_X1_readTenant_2.2.2.2.2.2.1 f_X1_29 kx_57 (fun _ _ => rfl) rx_57_0 (by decide) ?_
          refine R_callV (mc := 0) (ms := 0) (mc' := 0) (ms' := 0) (M' := M_X6_isNameHere) (d' := 5) (as := []) (st := []) 6 0 e_X1_readTenant_2.2.2.2.2.2.2.1 (kCVof m_X6_isNameHere l_X1_194) rfl (by decide) kx_3 (by decide) (by decide) rfl rfl (by show (0 : Nat) ≤ 8; decide) ?_
          refine Run.mono h (fun r13 s14 h => ?_)
          refine R_eqs (st2 := [vI r13]) rfl rfl ?_
          obtain ⟨q15, h⟩ := h
          refine R_if_ne 67 e_X1_readTenant_2.2.2.2.2.2.2.2.1 (by decide) q15  (fun q => ?_) (fun q => ?_)
          · replace h := h.1 q
            refine R_aload_n e_X1_readTenant_3.1 0 rfl ?_
            refine R_getA 1 1 31 e_X1_readTenant_3.2.1 f_X1_33 kx_57 (fun _ _ => rfl) rx_57_1 (by decide) ?_
            refine R_aload_n e_X1_readTenant_3.2.2.1 0 rfl ?_
            refine R_getA 1 0 3 e_X1_readTenant_3.2.2.2.1 f_X1_29 kx_57 (fun _ _ => rfl) rx_57_0 (by decide) ?_
            refine R_getL 6 6 6 e_X1_readTenant_3.2.2.2.2.1 f_X1_197 kx_3 (fun _ _ => rfl) rfl ?_
            refine R_callV (mc := 0) (ms := 0) (mc' := 0) (ms' := 0) (M' := M_X0_kiteNamed) (d' := 0) (as := [vL (s14 3 6)]) (st := []) 0 1 e_X1_readTenant_3.2.2.2.2.2.1 (kCVof m_X0_kiteNamed l_X1_198) rfl (by decide) (kC_self isC_31) (by decide) (by decide) rfl rfl (by show (0 : Nat) ≤ 8; decide) ?_
            refine Run.mono h (fun r16 s17 h => ?_)
            refine R_eqs (st2 := [vI r16]) rfl rfl ?_
            refine R_istore_n (ls2 := [(1, vI r16), (0, vA G 57)]) e_X1_readTenant_3.2.2.2.2.2.2.1 (by decide) rfl ?_
            refine R_iload_n e_X1_readTenant_3.2.2.2.2.2.2.2.1 0 rfl ?_
            refine R_iconst e_X1_readTenant_3.2.2.2.2.2.2.2.2.1 ?_
            obtain ⟨q18, h⟩ := h
            refine R_icmp_ne 96 e_X1_readTenant_3.2.2.2.2.2.2.2.2.2 (by decide) q18 (by decide) (fun q => ?_) (fun q => ?_)
            · replace h := h.1 q
              refine R_aload_n e_X1_readTenant_4.2.2.2.2.2.1 1 rfl ?_
              refine R_getA 1 0 3 e_X1_readTenant_4.2.2.2.2.2.2.1 f_X1_29 kx_57 (fun _ _ => rfl) rx_57_0 (by decide) ?_
              refine R_callV (mc := 0) (ms := 0) (mc' := 0) (ms' := 0) (M' := M_X6_next) (d' := 1) (as := []) (st := []) 6 0 e_X1_readTenant_4.2.2.2.2.2.2.2.1 (kCVof m_X6_next l_X1_119) rfl (by decide) kx_3 (by decide) (by decide) rfl rfl (by show (0 : Nat) ≤ 8; decide) ?_
              refine Run.mono h (fun r19 s20 h => ?_)
              refine R_eqs (st2 := []) rfl rfl ?_
              refine R_aload_n e_X1_readTenant_4.2.2.2.2.2.2.2.2.1 1 rfl ?_
              refine R_getA 1 1 31 e_X1_readTenant_4.2.2.2.2.2.2.2.2.2 f_X1_33 kx_57 (fun _ _ => rfl) rx_57_1 (by decide) ?_
              refine R_getA 0 12 (31 + 5) e_X1_readTenant_5.1 f_X1_202 (kC_self isC_31) (fun _ _ => rfl) (kC_r12 isC_31) (kC_n5 isC_31) ?_
              refine R_aload_n e_X1_readTenant_5.2.1 1 rfl ?_
              refine R_getA 1 1 31 e_X1_readTenant_5.2.2.1 f_X1_33 kx_57 (fun _ _ => rfl) rx_57_1 (by decide) ?_
              refine R_getI 0 7 7 e_X1_readTenant_5.2.2.2.1 f_X1_189 (kC_self isC_31) (fun _ _ => rfl) rfl ?_
              obtain ⟨q21, h⟩ := h
              refine R_aald 29 6 (31 + 20 + (s20 31 7)) e_X1_readTenant_5.2.2.2.2.1 (by decide) (kC_tens isC_31) q21 (kC_tenAt isC_31 q21) (kC_tenN isC_31 q21) ?_
              refine R_aload_n e_X1_readTenant_5.2.2.2.2.2.1 1 rfl ?_
              refine R_getL 1 4 4 e_X1_readTenant_5.2.2.2.2.2.2.1 f_X1_18 kx_57 (fun _ _ => rfl) rfl ?_
              refine R_aload_n e_X1_readTenant_5.2.2.2.2.2.2.2.1 1 rfl ?_
              refine R_getI 1 5 5 e_X1_readTenant_5.2.2.2.2.2.2.2.2.1 f_X1_22 kx_57 (fun _ _ => rfl) rfl ?_
              refine R_aload_n e_X1_readTenant_5.2.2.2.2.2.2.2.2.2 1 rfl ?_
              refine R_getI 1 6 6 e_X1_readTenant_6.1 f_X1_26 kx_57 (fun _ _ => rfl) rfl ?_
              refine R_iload_n e_X1_readTenant_6.2.1 0 rfl ?_
              refine R_callV (mc := 0) (ms := 0) (mc' := 0) (ms' := 0) (M' := M_X9_begin) (d' := 0) (as := [vL (s20 57 4), vI (s20 57 5), vI (s20 57 6), vI r16]) (st := []) 9 4 e_X1_readTenant_6.2.2.1 (kCVof m_X9_begin l_X1_206) rfl (by decide) (kC_ten isC_31 q21) (by decide) (by decide) rfl rfl (by show (0 : Nat) ≤ 8; decide) ?_
              refine Run.mono h (fun r22 s23 h => ?_)
              refine R_eqs (st2 := []) rfl rfl ?_
              refine R_aload_n e_X1_readTenant_6.2.2.2.1 1 rfl ?_
              refine R_getA 1 1 31 e_X1_readTenant_6.2.2.2.2.1 f_X1_33 kx_57 (fun _ _ => rfl) rx_57_1 (by decide) ?_
              refine R_dup e_X1_readTenant_6.2.2.2.2.2.1 rfl ?_
              refine R_getI 0 7 7 e_X1_readTenant_6.2.2.2.2.2.2.1 f_X1_189 (kC_self isC_31) (fun _ _ => rfl) rfl ?_
              refine R_iconst e_X1_readTenant_6.2.2.2.2.2.2.2.1 ?_
              refine R_iadd e_X1_readTenant_6.2.2.2.2.2.2.2.2.1 ?_
              refine R_putI 0 7 7 WX_ok e_X1_readTenant_6.2.2.2.2.2.2.2.2.2 f_X1_189 (kC_self isC_31) rfl rfl rfl ?_
              refine R_iconst e_X1_readTenant_7.1 ?_
              exact R_zreturn e_X1_readTenant_7.2 rfl (Or.inr rfl) h
            · replace h := h.2 q
              refine R_aload_n e_X1_readTenant_4.1 1 rfl ?_
              refine R_getA 1 0 3 e_X1_readTenant_4.2.1 f_X1_29 kx_57 (fun _ _ => rfl) rx_57_0 (by decide) ?_
              refine R_iconst e_X1_readTenant_4.2.2.1 ?_
              obtain ⟨q26, h⟩ := h
              refine R_callV (mc := 0) (ms := 0) (mc' := 0) (ms' := 0) (M' := M_X6_fail) (d' := 0) (as := [vI 3]) (st := []) 6 1 e_X1_readTenant_4.2.2.2.1 (kCVof m_X6_fail l_X1_97) rfl (by decide) kx_3 (by decide) (by decide) rfl rfl (by show (0 : Nat) ≤ 8; decide) ?_
              refine Run.mono (P_X6_fail q26) (fun r s e => ?_)
              obtain ⟨e1, e2⟩ := e
              refine R_eqs (st2 := [vI 0]) (σ2 := (xF s17 (3))) (by rw [e1]; rfl) e2 ?_
              exact R_zreturn e_X1_readTenant_4.2.2.2.2.1 rfl (Or.inl rfl) h
          · replace h := h.2 q
            refine R_iconst e_X1_readTenant_2.2.2.2.2.2.2.2.2.1 ?_
            exact R_zreturn e_X1_readTenant_2.2.2.2.2.2.2.2.2.2 rfl (Or.inl rfl) h
  · replace h := h.2 q
    refine R_aload_n e_X1_readTenant_0.2.2.2.2.2.1 0 rfl ?_
    refine R_getA 1 0 3 e_X1_readTenant_0.2.2.2.2.2.2.1 f_X1_29 kx_57 (fun _ _ => rfl) rx_57_0 (by decide) ?_
    refine R_bipush e_X1_readTenant_0.2.2.2.2.2.2.2.1 (by decide) ?_
    obtain ⟨q29, h⟩ := h
    refine R_callV (mc := 0) (ms := 0) (mc' := 0) (ms' := 0) (M' := M_X6_fail) (d' := 0) (as := [vI 6]) (st := []) 6 1 e_X1_readTenant_0.2.2.2.2.2.2.2.2.1 (kCVof m_X6_fail l_X1_97) rfl (by decide) kx_3 (by decide) (by decide) rfl rfl (by show (0 : Nat) ≤ 8; decide) ?_
    refine Run.mono (P_X6_fail q29) (fun r s e => ?_)
    obtain ⟨e1, e2⟩ := e
    refine R_eqs (st2 := [vI 0]) (σ2 := (xF σ (6))) (by rw [e1]; rfl) e2 ?_
    exact R_zreturn e_X1_readTenant_0.2.2.2.2.2.2.2.2.2 rfl (Or.inl rfl) h
/-! KiteLand$CountyReader.readPart()Z -/
theorem e_X1_readPart_0 : decode cX1_readPart 0 = .ok (.aload_n 0, 1) ∧ decode cX1_readPart 1 = .ok (.getfield 29, 3) ∧ decode cX1_readPart 4 = .ok (.ldc 61, 2) ∧ decode cX1_readPart 6 = .ok (.invokevirtual 63, 3) ∧ decode cX1_readPart 9 = .ok (.ifCond .eq 8, 3) ∧ decode cX1_readPart 12 = .ok (.aload_n 0, 1) ∧ decode cX1_readPart 13 = .ok (.invokevirtual 67, 3) ∧ decode cX1_readPart 16 = .ok (.ireturn, 1) ∧ decode cX1_readPart 17 = .ok (.aload_n 0, 1) ∧ decode cX1_readPart 18 = .ok (.getfield 29, 3) := by decide +kernel
theorem e_X1_readPart_1 : decode cX1_readPart 21 = .ok (.ldc 70, 2) ∧ decode cX1_readPart 23 = .ok (.invokevirtual 63, 3) ∧ decode cX1_readPart 26 = .ok (.ifCond .eq 8, 3) ∧ decode cX1_readPart 29 = .ok (.aload_n 0, 1) ∧ decode cX1_readPart 30 = .ok (.invokevirtual 72, 3) ∧ decode cX1_readPart 33 = .ok (.ireturn, 1) ∧ decode cX1_readPart 34 = .ok (.aload_n 0, 1) ∧ decode cX1_readPart 35 = .ok (.getfield 29, 3) ∧ decode cX1_readPart 38 = .ok (.ldc 75, 2) ∧ decode cX1_readPart 40 = .ok (.invokevirtual 63, 3) := by decide +kernel
theorem e_X1_readPart_2 : decode cX1_readPart 43 = .ok (.ifCond .eq 8, 3) ∧ decode cX1_readPart 46 = .ok (.aload_n 0, 1) ∧ decode cX1_readPart 47 = .ok (.invokevirtual 77, 3) ∧ decode cX1_readPart 50 = .ok (.ireturn, 1) ∧ decode cX1_readPart 51 = .ok (.aload_n 0, 1) ∧ decode cX1_readPart 52 = .ok (.getfield 29, 3) ∧ decode cX1_readPart 55 = .ok (.ldc 80, 2) ∧ decode cX1_readPart 57 = .ok (.invokevirtual 63, 3) ∧ decode cX1_readPart 60 = .ok (.ifCond .eq 8, 3) ∧ decode cX1_readPart 63 = .ok (.aload_n 0, 1) := by decide +kernel
theorem e_X1_readPart_3 : decode cX1_readPart 64 = .ok (.invokevirtual 82, 3) ∧ decode cX1_readPart 67 = .ok (.ireturn, 1) ∧ decode cX1_readPart 68 = .ok (.aload_n 0, 1) ∧ decode cX1_readPart 69 = .ok (.getfield 29, 3) ∧ decode cX1_readPart 72 = .ok (.ldc 85, 2) ∧ decode cX1_readPart 74 = .ok (.invokevirtual 63, 3) ∧ decode cX1_readPart 77 = .ok (.ifCond .eq 8, 3) ∧ decode cX1_readPart 80 = .ok (.aload_n 0, 1) ∧ decode cX1_readPart 81 = .ok (.invokevirtual 87, 3) ∧ decode cX1_readPart 84 = .ok (.ireturn, 1) := by decide +kernel
theorem e_X1_readPart_4 : decode cX1_readPart 85 = .ok (.aload_n 0, 1) ∧ decode cX1_readPart 86 = .ok (.getfield 29, 3) ∧ decode cX1_readPart 89 = .ok (.ldc 90, 2) ∧ decode cX1_readPart 91 = .ok (.invokevirtual 63, 3) ∧ decode cX1_readPart 94 = .ok (.ifCond .eq 8, 3) ∧ decode cX1_readPart 97 = .ok (.aload_n 0, 1) ∧ decode cX1_readPart 98 = .ok (.invokevirtual 92, 3) ∧ decode cX1_readPart 101 = .ok (.ireturn, 1) ∧ decode cX1_readPart 102 = .ok (.aload_n 0, 1) ∧ decode cX1_readPart 103 = .ok (.getfield 29, 3) := by decide +kernel
theorem e_X1_readPart_5 : decode cX1_readPart 106 = .ok (.aload_n 0, 1) ∧ decode cX1_readPart 107 = .ok (.getfield 29, 3) ∧ decode cX1_readPart 110 = .ok (.ldc 95, 2) ∧ decode cX1_readPart 112 = .ok (.invokevirtual 63, 3) ∧ decode cX1_readPart 115 = .ok (.ifCond .eq 7, 3) ∧ decode cX1_readPart 118 = .ok (.iconst 5, 1) ∧ decode cX1_readPart 119 = .ok (.goto 4, 3) ∧ decode cX1_readPart 122 = .ok (.iconst 2, 1) ∧ decode cX1_readPart 123 = .ok (.invokevirtual 97, 3) ∧ decode cX1_readPart 126 = .ok (.ireturn, 1) := by decide +kernel
theorem S_X1_readPart {G : Kg} {σ : Kmem} {Q : Int → Kmem → Prop}  (h : (xT0 σ ∧ isStr ((-18))) ∧ ((¬ (xW σ ((-18))) → (xT0 σ ∧ isStr ((-19))) ∧ ((¬ (xW σ ((-19))) → (xT0 σ ∧ isStr ((-20))) ∧ ((¬ (xW σ ((-20))) → (xT0 σ ∧ isStr ((-21))) ∧ ((¬ (xW σ ((-21))) → (xT0 σ ∧ isStr ((-22))) ∧ ((¬ (xW σ ((-22))) → (xT0 σ ∧ isStr ((-23))) ∧ ((¬ (xW σ ((-23))) → (xT0 σ ∧ isStr ((-24))) ∧ ((¬ (xW σ ((-24))) → (rI (σ 3 2)) ∧ Q 0 (xF σ (2))) ∧ ((xW σ ((-24))) → (rI (σ 3 2)) ∧ Q 0 (xF σ (5))))) ∧ ((xW σ ((-23))) → Run G WX M_X1_readTenant 7 0 0 [vA G 57] σ (fun r28 s29 => (r28 = 0 ∨ r28 = 1) ∧ Q r28 s29)))) ∧ ((xW σ ((-22))) → Run G WX M_X1_readCrop 7 0 0 [vA G 57] σ (fun r31 s32 => (r31 = 0 ∨ r31 = 1) ∧ Q r31 s32)))) ∧ ((xW σ ((-21))) → Run G WX M_X1_readKite 7 0 0 [vA G 57] σ (fun r34 s35 => (r34 = 0 ∨ r34 = 1) ∧ Q r34 s35)))) ∧ ((xW σ ((-20))) → Run G WX M_X1_readLaw 3 0 0 [vA G 57] σ (fun r37 s38 => (r37 = 0 ∨ r37 = 1) ∧ Q r37 s38)))) ∧ ((xW σ ((-19))) → Run G WX M_X1_readNoon 3 0 0 [vA G 57] σ (fun r40 s41 => (r40 = 0 ∨ r40 = 1) ∧ Q r40 s41)))) ∧ ((xW σ ((-18))) → Run G WX M_X1_readWind 3 0 0 [vA G 57] σ (fun r43 s44 => (r43 = 0 ∨ r43 = 1) ∧ Q r43 s44)))) : Run G WX M_X1_readPart 8 0 0 [vA G 57] σ Q := by
  refine Run.of (by decide +kernel) (by show (1 : Nat) ≤ 1; decide) ?_
  show Ex G WX M_X1_readPart 8 0 0 0 [(0, vA G 57)] [] σ Q
  refine R_aload_n e_X1_readPart_0.1 0 rfl ?_
  refine R_getA 1 0 3 e_X1_readPart_0.2.1 f_X1_29 kx_57 (fun _ _ => rfl) rx_57_0 (by decide) ?_
  refine R_ldcS (i := 8) (-18) e_X1_readPart_0.2.2.1 rfl rfl ?_
  obtain ⟨q3, h⟩ := h
  refine R_callV (mc := 0) (ms := 0) (mc' := 0) (ms' := 0) (M' := M_X6_isWord) (d' := 4) (as := [vA G (-18)]) (st := []) 6 1 e_X1_readPart_0.2.2.2.1 (kCVof m_X6_isWord l_X1_63) rfl (by decide) kx_3 (by decide) (by decide) rfl rfl (by show (0 : Nat) ≤ 8; decide) ?_
  refine Run.mono (P_X6_isWord q3) (fun r s e => ?_)
  obtain ⟨e1, e2⟩ := e
  refine R_eqs (st2 := [vI (kb (xW σ ((-18))))]) (σ2 := σ) (by rw [e1]; rfl) e2 ?_
  refine R_if_eq 17 e_X1_readPart_0.2.2.2.2.1 (by decide) (kb_r _) (fun q => ?_) (fun q => ?_)
  · replace h := h.1 (kb_f q)
    refine R_aload_n e_X1_readPart_0.2.2.2.2.2.2.2.2.1 0 rfl ?_
    refine R_getA 1 0 3 e_X1_readPart_0.2.2.2.2.2.2.2.2.2 f_X1_29 kx_57 (fun _ _ => rfl) rx_57_0 (by decide) ?_
    refine R_ldcS (i := 9) (-19) e_X1_readPart_1.1 rfl rfl ?_
    obtain ⟨q6, h⟩ := h
    refine R_callV (mc := 0) (ms := 0) (mc' := 0) (ms' := 0) (M' := M_X6_isWord) (d' := 4) (as := [vA G (-19)]) (st := []) 6 1 e_X1_readPart_1.2.1 (kCVof m_X6_isWord l_X1_63) rfl (by decide) kx_3 (by decide) (by decide) rfl rfl (by show (0 : Nat) ≤ 8; decide) ?_
    refine Run.mono (P_X6_isWord q6) (fun r s e => ?_)
    obtain ⟨e1, e2⟩ := e
    refine R_eqs (st2 := [vI (kb (xW σ ((-19))))]) (σ2 := σ) (by rw [e1]; rfl) e2 ?_
    refine R_if_eq 34 e_X1_readPart_1.2.2.1 (by decide) (kb_r _) (fun q => ?_) (fun q => ?_)
    · replace h := h.1 (kb_f q)
      refine R_aload_n e_X1_readPart_1.2.2.2.2.2.2.1 0 rfl ?_
      refine R_getA 1 0 3 e_X1_readPart_1.2.2.2.2.2.2.2.1 f_X1_29 kx_57 (fun _ _ => rfl) rx_57_0 (by decide) ?_
      refine R_ldcS (i := 10) (-20) e_X1_readPart_1.2.2.2.2.2.2.2.2.1 rfl rfl ?_
      obtain ⟨q9, h⟩ := h
      refine R_callV (mc := 0) (ms := 0) (mc' := 0) (ms' := 0) (M' := M_X6_isWord) (d' := 4) (as := [vA G (-20)]) (st := []) 6 1 e_X1_readPart_1.2.2.2.2.2.2.2.2.2 (kCVof m_X6_isWord l_X1_63) rfl (by decide) kx_3 (by decide) (by decide) rfl rfl (by show (0 : Nat) ≤ 8; decide) ?_
      refine Run.mono (P_X6_isWord q9) (fun r s e => ?_)
      obtain ⟨e1, e2⟩ := e
      refine R_eqs (st2 := [vI (kb (xW σ ((-20))))]) (σ2 := σ) (by rw [e1]; rfl) e2 ?_
      refine R_if_eq 51 e_X1_readPart_2.1 (by decide) (kb_r _) (fun q => ?_) (fun q => ?_)
      · replace h := h.1 (kb_f q)
        refine R_aload_n e_X1_readPart_2.2.2.2.2.1 0 rfl ?_
        refine R_getA 1 0 3 e_X1_readPart_2.2.2.2.2.2.1 f_X1_29 kx_57 (fun _ _ => rfl) rx_57_0 (by decide) ?_
        refine R_ldcS (i := 11) (-21) e_X1_readPart_2.2.2.2.2.2.2.1 rfl rfl ?_
        obtain ⟨q12, h⟩ := h
        refine R_callV (mc := 0) (ms := 0) (mc' := 0) (ms' := 0) (M' := M_X6_isWord) (d' := 4) (as := [vA G (-21)]) (st := []) 6 1 e_X1_readPart_2.2.2.2.2.2.2.2.1 (kCVof m_X6_isWord l_X1_63) rfl (by decide) kx_3 (by decide) (by decide) rfl rfl (by show (0 : Nat) ≤ 8; decide) ?_
        refine Run.mono (P_X6_isWord q12) (fun r s e => ?_)
        obtain ⟨e1, e2⟩ := e
        refine R_eqs (st2 := [vI (kb (xW σ ((-21))))]) (σ2 := σ) (by rw [e1]; rfl) e2 ?_
        refine R_if_eq 68 e_X1_readPart_2.2.2.2.2.2.2.2.2.1 (by decide) (kb_r _) (fun q => ?_) (fun q => ?_)
        · replace h := h.1 (kb_f q)
          refine R_aload_n e_X1_readPart_3.2.2.1 0 rfl ?_
          refine R_getA 1 0 3 e_X1_readPart_3.2.2.2.1 f_X1_29 kx_57 (fun _ _ => rfl) rx_57_0 (by decide) ?_
          refine R_ldcS (i := 12) (-22) e_X1_readPart_3.2.2.2.2.1 rfl rfl ?_
          obtain ⟨q15, h⟩ := h
          refine R_callV (mc := 0) (ms := 0) (mc' := 0) (ms' := 0) (M' := M_X6_isWord) (d' := 4) (as := [vA G (-22)]) (st := []) 6 1 e_X1_readPart_3.2.2.2.2.2.1 (kCVof m_X6_isWord l_X1_63) rfl (by decide) kx_3 (by decide) (by decide) rfl rfl (by show (0 : Nat) ≤ 8; decide) ?_
          refine Run.mono (P_X6_isWord q15) (fun r s e => ?_)
          obtain ⟨e1, e2⟩ := e
          refine R_eqs (st2 := [vI (kb (xW σ ((-22))))]) (σ2 := σ) (by rw [e1]; rfl) e2 ?_
          refine R_if_eq 85 e_X1_readPart_3.2.2.2.2.2.2.1 (by decide) (kb_r _) (fun q => ?_) (fun q => ?_)
          · replace h := h.1 (kb_f q)
            refine R_aload_n e_X1_readPart_4.1 0 rfl ?_
            refine R_getA 1 0 3 e_X1_readPart_4.2.1 f_X1_29 kx_57 (fun _ _ => rfl) rx_57_0 (by decide) ?_
            refine R_ldcS (i := 13) (-23) e_X1_readPart_4.2.2.1 rfl rfl ?_
            obtain ⟨q18, h⟩ := h
            refine R_callV (mc := 0) (ms := 0) (mc' := 0) (ms' := 0) (M' := M_X6_isWord) (d' := 4) (as := [vA G (-23)]) (st := []) 6 1 e_X1_readPart_4.2.2.2.1 (kCVof m_X6_isWord l_X1_63) rfl (by decide) kx_3 (by decide) (by decide) rfl rfl (by show (0 : Nat) ≤ 8; decide) ?_
            refine Run.mono (P_X6_isWord q18) (fun r s e => ?_)
            obtain ⟨e1, e2⟩ := e
            refine R_eqs (st2 := [vI (kb (xW σ ((-23))))]) (σ2 := σ) (by rw [e1]; rfl) e2 ?_
            refine R_if_eq 102 e_X1_readPart_4.2.2.2.2.1 (by decide) (kb_r _) (fun q => ?_) (fun q => ?_)
            · replace h := h.1 (kb_f q)
              refine R_aload_n e_X1_readPart_4.2.2.2.2.2.2.2.2.1 0 rfl ?_
              refine R_getA 1 0 3 e_X1_readPart_4.2.2.2.2.2.2.2.2.2 f_X1_29 kx_57 (fun _ _ => rfl) rx_57_0 (by decide) ?_
              refine R_aload_n e_X1_readPart_5.1 0 rfl ?_
              refine R_getA 1 0 3 e_X1_readPart_5.2.1 f_X1_29 kx_57 (fun _ _ => rfl) rx_57_0 (by decide) ?_
              refine R_ldcS (i := 14) (-24) e_X1_readPart_5.2.2.1 rfl rfl ?_
              obtain ⟨q21, h⟩ := h
              refine R_callV (mc := 0) (ms := 0) (mc' := 0) (ms' := 0) (M' := M_X6_isWord) (d' := 4) (as := [vA G (-24)]) (st := [vA G 3]) 6 1 e_X1_readPart_5.2.2.2.1 (kCVof m_X6_isWord l_X1_63) rfl (by decide) kx_3 (by decide) (by decide) rfl rfl (by show (1 : Nat) ≤ 8; decide) ?_
              refine Run.mono (P_X6_isWord q21) (fun r s e => ?_)
              obtain ⟨e1, e2⟩ := e
              refine R_eqs (st2 := [vI (kb (xW σ ((-24)))), vA G 3]) (σ2 := σ) (by rw [e1]; rfl) e2 ?_
              refine R_if_eq 122 e_X1_readPart_5.2.2.2.2.1 (by decide) (kb_r _) (fun q => ?_) (fun q => ?_)
              · replace h := h.1 (kb_f q)
                refine R_iconst e_X1_readPart_5.2.2.2.2.2.2.2.1 ?_
                obtain ⟨q24, h⟩ := h
                refine R_callV (mc := 0) (ms := 0) (mc' := 0) (ms' := 0) (M' := M_X6_fail) (d' := 0) (as := [vI 2]) (st := []) 6 1 e_X1_readPart_5.2.2.2.2.2.2.2.2.1 (kCVof m_X6_fail l_X1_97) rfl (by decide) kx_3 (by decide) (by decide) rfl rfl (by show (0 : Nat) ≤ 8; decide) ?_
                refine Run.mono (P_X6_fail q24) (fun r s e => ?_)
                obtain ⟨e1, e2⟩ := e
                refine R_eqs (st2 := [vI 0]) (σ2 := (xF σ (2))) (by rw [e1]; rfl) e2 ?_
                exact R_zreturn e_X1_readPart_5.2.2.2.2.2.2.2.2.2 rfl (Or.inl rfl) h
              · replace h := h.2 (kb_t q)
                refine R_iconst e_X1_readPart_5.2.2.2.2.2.1 ?_
                refine R_goto 123 e_X1_readPart_5.2.2.2.2.2.2.1 (by decide) ?_
                obtain ⟨q27, h⟩ := h
                refine R_callV (mc := 0) (ms := 0) (mc' := 0) (ms' := 0) (M' := M_X6_fail) (d' := 0) (as := [vI 5]) (st := []) 6 1 e_X1_readPart_5.2.2.2.2.2.2.2.2.1 (kCVof m_X6_fail l_X1_97) rfl (by decide) kx_3 (by decide) (by decide) rfl rfl (by show (0 : Nat) ≤ 8; decide) ?_
                refine Run.mono (P_X6_fail q27) (fun r s e => ?_)
                obtain ⟨e1, e2⟩ := e
                refine R_eqs (st2 := [vI 0]) (σ2 := (xF σ (5))) (by rw [e1]; rfl) e2 ?_
                exact R_zreturn e_X1_readPart_5.2.2.2.2.2.2.2.2.2 rfl (Or.inl rfl) h
            · replace h := h.2 (kb_t q)
              refine R_aload_n e_X1_readPart_4.2.2.2.2.2.1 0 rfl ?_
              refine R_callV (mc := 0) (ms := 0) (mc' := 0) (ms' := 0) (M' := M_X1_readTenant) (d' := 7) (as := []) (st := []) 1 0 e_X1_readPart_4.2.2.2.2.2.2.1 (kCVof m_X1_readTenant l_X1_92) rfl (by decide) kx_57 (by decide) (by decide) rfl rfl (by show (0 : Nat) ≤ 8; decide) ?_
              refine Run.mono h (fun r28 s29 h => ?_)
              refine R_eqs (st2 := [vI r28]) rfl rfl ?_
              obtain ⟨q30, h⟩ := h
              exact R_zreturn e_X1_readPart_4.2.2.2.2.2.2.2.1 rfl q30 h
          · replace h := h.2 (kb_t q)
            refine R_aload_n e_X1_readPart_3.2.2.2.2.2.2.2.1 0 rfl ?_
            refine R_callV (mc := 0) (ms := 0) (mc' := 0) (ms' := 0) (M' := M_X1_readCrop) (d' := 7) (as := []) (st := []) 1 0 e_X1_readPart_3.2.2.2.2.2.2.2.2.1 (kCVof m_X1_readCrop l_X1_87) rfl (by decide) kx_57 (by decide) (by decide) rfl rfl (by show (0 : Nat) ≤ 8; decide) ?_
            refine Run.mono h (fun r31 s32 h => ?_)
            refine R_eqs (st2 := [vI r31]) rfl rfl ?_
            obtain ⟨q33, h⟩ := h
            exact R_zreturn e_X1_readPart_3.2.2.2.2.2.2.2.2.2 rfl q33 h
        · replace h := h.2 (kb_t q)
          refine R_aload_n e_X1_readPart_2.2.2.2.2.2.2.2.2.2 0 rfl ?_
          refine R_callV (mc := 0) (ms := 0) (mc' := 0) (ms' := 0) (M' := M_X1_readKite) (d' := 7) (as := []) (st := []) 1 0 e_X1_readPart_3.1 (kCVof m_X1_readKite l_X1_82) rfl (by decide) kx_57 (by decide) (by decide) rfl rfl (by show (0 : Nat) ≤ 8; decide) ?_
          refine Run.mono h (fun r34 s35 h => ?_)
          refine R_eqs (st2 := [vI r34]) rfl rfl ?_
          obtain ⟨q36, h⟩ := h
          exact R_zreturn e_X1_readPart_3.2.1 rfl q36 h
      · replace h := h.2 (kb_t q)
        refine R_aload_n e_X1_readPart_2.2.1 0 rfl ?_
        refine R_callV (mc := 0) (ms := 0) (mc' := 0) (ms' := 0) (M' := M_X1_readLaw) (d' := 3) (as := []) (st := []) 1 0 e_X1_readPart_2.2.2.1 (kCVof m_X1_readLaw l_X1_77) rfl (by decide) kx_57 (by decide) (by decide) rfl rfl (by show (0 : Nat) ≤ 8; decide) ?_
        refine Run.mono h (fun r37 s38 h => ?_)
        refine R_eqs (st2 := [vI r37]) rfl rfl ?_
        obtain ⟨q39, h⟩ := h
        exact R_zreturn e_X1_readPart_2.2.2.2.1 rfl q39 h
    · replace h := h.2 (kb_t q)
      refine R_aload_n e_X1_readPart_1.2.2.2.1 0 rfl ?_
      refine R_callV (mc := 0) (ms := 0) (mc' := 0) (ms' := 0) (M' := M_X1_readNoon) (d' := 3) (as := []) (st := []) 1 0 e_X1_readPart_1.2.2.2.2.1 (kCVof m_X1_readNoon l_X1_72) rfl (by decide) kx_57 (by decide) (by decide) rfl rfl (by show (0 : Nat) ≤ 8; decide) ?_
      refine Run.mono h (fun r40 s41 h => ?_)
      refine R_eqs (st2 := [vI r40]) rfl rfl ?_
      obtain ⟨q42, h⟩ := h
      exact R_zreturn e_X1_readPart_1.2.2.2.2.2.1 rfl q42 h
  · replace h := h.2 (kb_t q)
    refine R_aload_n e_X1_readPart_0.2.2.2.2.2.1 0 rfl ?_
    refine R_callV (mc := 0) (ms := 0) (mc' := 0) (ms' := 0) (M' := M_X1_readWind) (d' := 3) (as := []) (st := []) 1 0 e_X1_readPart_0.2.2.2.2.2.2.1 (kCVof m_X1_readWind l_X1_67) rfl (by decide) kx_57 (by decide) (by decide) rfl rfl (by show (0 : Nat) ≤ 8; decide) ?_
    refine Run.mono h (fun r43 s44 h => ?_)
    refine R_eqs (st2 := [vI r43]) rfl rfl ?_
    obtain ⟨q45, h⟩ := h
    exact R_zreturn e_X1_readPart_0.2.2.2.2.2.2.2.1 rfl q45 h
/-! KiteLand$CountyReader.readAll()Z -/
theorem e_X1_readAll_0 : decode cX1_readAll 0 = .ok (.aload_n 0, 1) ∧ decode cX1_readAll 1 = .ok (.getfield 33, 3) ∧ decode cX1_readAll 4 = .ok (.invokevirtual 37, 3) ∧ decode cX1_readAll 7 = .ok (.aload_n 0, 1) ∧ decode cX1_readAll 8 = .ok (.iconst 0, 1) ∧ decode cX1_readAll 9 = .ok (.putfield 9, 3) ∧ decode cX1_readAll 12 = .ok (.aload_n 0, 1) ∧ decode cX1_readAll 13 = .ok (.iconst 0, 1) ∧ decode cX1_readAll 14 = .ok (.putfield 15, 3) ∧ decode cX1_readAll 17 = .ok (.iconst 0, 1) := by decide +kernel
theorem e_X1_readAll_1 : decode cX1_readAll 18 = .ok (.istore_n 1, 1) ∧ decode cX1_readAll 19 = .ok (.iload_n 1, 1) ∧ decode cX1_readAll 20 = .ok (.sipush 900, 3) ∧ decode cX1_readAll 23 = .ok (.if_icmp .ge 59, 3) ∧ decode cX1_readAll 26 = .ok (.aload_n 0, 1) ∧ decode cX1_readAll 27 = .ok (.getfield 29, 3) ∧ decode cX1_readAll 30 = .ok (.invokevirtual 42, 3) ∧ decode cX1_readAll 33 = .ok (.ifCond .ne 49, 3) ∧ decode cX1_readAll 36 = .ok (.aload_n 0, 1) ∧ decode cX1_readAll 37 = .ok (.getfield 33, 3) := by decide +kernel
theorem e_X1_readAll_2 : decode cX1_readAll 40 = .ok (.invokevirtual 48, 3) ∧ decode cX1_readAll 43 = .ok (.ifCond .eq 10, 3) ∧ decode cX1_readAll 46 = .ok (.aload_n 0, 1) ∧ decode cX1_readAll 47 = .ok (.invokevirtual 51, 3) ∧ decode cX1_readAll 50 = .ok (.goto 7, 3) ∧ decode cX1_readAll 53 = .ok (.aload_n 0, 1) ∧ decode cX1_readAll 54 = .ok (.invokevirtual 54, 3) ∧ decode cX1_readAll 57 = .ok (.istore_n 2, 1) ∧ decode cX1_readAll 58 = .ok (.iload_n 2, 1) ∧ decode cX1_readAll 59 = .ok (.ifCond .eq 15, 3) := by decide +kernel
theorem e_X1_readAll_3 : decode cX1_readAll 62 = .ok (.aload_n 0, 1) ∧ decode cX1_readAll 63 = .ok (.getfield 29, 3) ∧ decode cX1_readAll 66 = .ok (.bipush 59, 2) ∧ decode cX1_readAll 68 = .ok (.invokevirtual 57, 3) ∧ decode cX1_readAll 71 = .ok (.ifCond .ne 5, 3) ∧ decode cX1_readAll 74 = .ok (.iconst 0, 1) ∧ decode cX1_readAll 75 = .ok (.ireturn, 1) ∧ decode cX1_readAll 76 = .ok (.iinc 1 1, 3) ∧ decode cX1_readAll 79 = .ok (.goto (-60), 3) ∧ decode cX1_readAll 82 = .ok (.iconst 1, 1) := by decide +kernel
theorem e_X1_readAll_4 : decode cX1_readAll 83 = .ok (.ireturn, 1) := by decide +kernel
abbrev E_X1_readAll_19 (G : Kg) (l1 : Int) (σ : Kmem) (Q : Int → Kmem → Prop) : Prop := Ex G WX M_X1_readAll 9 0 0 19 [(0, vA G 57), (1, vI l1)] [] σ Q
theorem S_X1_readAll {G : Kg} {σ : Kmem} {Q : Int → Kmem → Prop}  (h : Run G WX M_X0_clear 0 0 0 [vA G 31] σ (fun r1 s2 => E_X1_readAll_19 G 0 (kup (kup s2 57 2 0) 57 3 0) Q)) : Run G WX M_X1_readAll 9 0 0 [vA G 57] σ Q := by
  refine Run.of (by decide +kernel) (by show (1 : Nat) ≤ 3; decide) ?_
  show Ex G WX M_X1_readAll 9 0 0 0 [(0, vA G 57)] [] σ Q
  refine R_aload_n e_X1_readAll_0.1 0 rfl ?_
  refine R_getA 1 1 31 e_X1_readAll_0.2.1 f_X1_33 kx_57 (fun _ _ => rfl) rx_57_1 (by decide) ?_
  refine R_callV (mc := 0) (ms := 0) (mc' := 0) (ms' := 0) (M' := M_X0_clear) (d' := 0) (as := []) (st := []) 0 0 e_X1_readAll_0.2.2.1 (kCVof m_X0_clear l_X1_37) rfl (by decide) (kC_self isC_31) (by decide) (by decide) rfl rfl (by show (0 : Nat) ≤ 8; decide) ?_
  refine Run.mono h (fun r1 s2 h => ?_)
  refine R_eqs (st2 := []) rfl rfl ?_
  refine R_aload_n e_X1_readAll_0.2.2.2.1 0 rfl ?_
  refine R_iconst e_X1_readAll_0.2.2.2.2.1 ?_
  refine R_putZ 1 2 2 WX_ok e_X1_readAll_0.2.2.2.2.2.1 f_X1_9 kx_57 rfl rfl rfl (Or.inl rfl) ?_
  refine R_aload_n e_X1_readAll_0.2.2.2.2.2.2.1 0 rfl ?_
  refine R_iconst e_X1_readAll_0.2.2.2.2.2.2.2.1 ?_
  refine R_putZ 1 3 3 WX_ok e_X1_readAll_0.2.2.2.2.2.2.2.2.1 f_X1_15 kx_57 rfl rfl rfl (Or.inl rfl) ?_
  refine R_iconst e_X1_readAll_0.2.2.2.2.2.2.2.2.2 ?_
  refine R_istore_n (ls2 := [(1, vI 0), (0, vA G 57)]) e_X1_readAll_1.1 (by decide) rfl ?_
  refine R_ls (ls2 := [(0, vA G 57), (1, vI 0)]) [1, 0] rfl ?_
  exact h
theorem S_X1_readAll_19 {G : Kg} {σ : Kmem} {Q : Int → Kmem → Prop} {l1 : Int}  (h : (rI l1) ∧ ((900 ≤ l1 → Q 1 σ) ∧ (l1 < 900 → (rI (σ 3 2)) ∧ (((σ 3 2 = 0) → Q 1 σ) ∧ (¬ (σ 3 2 = 0) → Run G WX M_X0_hasLand 0 0 0 [vA G 31] σ (fun r7 s8 => (rI r7) ∧ ((r7 = 0 → Run G WX M_X1_readLand 6 0 0 [vA G 57] s8 (fun r10 s11 => (rI r10) ∧ ((r10 = 0 → Q 0 s11) ∧ (r10 ≠ 0 → Run G WX M_X6_takeSign 2 0 0 [vA G 3, vI 59] s11 (fun r13 s14 => (rI r13) ∧ ((r13 ≠ 0 → E_X1_readAll_19 G (l1 + 1) s14 Q) ∧ (r13 = 0 → Q 0 s14))))))) ∧ (r7 ≠ 0 → Run G WX M_X1_readPart 8 0 0 [vA G 57] s8 (fun r16 s17 => (rI r16) ∧ ((r16 = 0 → Q 0 s17) ∧ (r16 ≠ 0 → Run G WX M_X6_takeSign 2 0 0 [vA G 3, vI 59] s17 (fun r19 s20 => (rI r19) ∧ ((r19 ≠ 0 → E_X1_readAll_19 G (l1 + 1) s20 Q) ∧ (r19 = 0 → Q 0 s20)))))))))))))) : E_X1_readAll_19 G l1 σ Q := by
  refine R_iload_n e_X1_readAll_1.2.1 1 rfl ?_
  refine R_sipush e_X1_readAll_1.2.2.1 (by decide) ?_
  obtain ⟨q3, h⟩ := h
  refine R_icmp_ge 82 e_X1_readAll_1.2.2.2.1 (by decide) q3 (by decide) (fun q => ?_) (fun q => ?_)
  · replace h := h.1 q
    refine R_iconst e_X1_readAll_3.2.2.2.2.2.2.2.2.2 ?_
    exact R_zreturn e_X1_readAll_4 rfl (Or.inr rfl) h
  · replace h := h.2 q
    refine R_aload_n e_X1_readAll_1.2.2.2.2.1 0 rfl ?_
    refine R_getA 1 0 3 e_X1_readAll_1.2.2.2.2.2.1 f_X1_29 kx_57 (fun _ _ => rfl) rx_57_0 (by decide) ?_
    obtain ⟨q6, h⟩ := h
    refine R_callV (mc := 0) (ms := 0) (mc' := 0) (ms' := 0) (M' := M_X6_isAtEnd) (d' := 0) (as := []) (st := []) 6 0 e_X1_readAll_1.2.2.2.2.2.2.1 (kCVof m_X6_isAtEnd l_X1_42) rfl (by decide) kx_3 (by decide) (by decide) rfl rfl (by show (0 : Nat) ≤ 8; decide) ?_
    refine Run.mono (P_X6_isAtEnd q6) (fun r s e => ?_)
    obtain ⟨e1, e2⟩ := e
    refine R_eqs (st2 := [vI (kb (σ 3 2 = 0))]) (σ2 := σ) (by rw [e1]; rfl) e2 ?_
    refine R_if_ne 82 e_X1_readAll_1.2.2.2.2.2.2.2.1 (by decide) (kb_r _) (fun q => ?_) (fun q => ?_)
    · replace h := h.1 (kb_t q)
      refine R_iconst e_X1_readAll_3.2.2.2.2.2.2.2.2.2 ?_
      exact R_zreturn e_X1_readAll_4 rfl (Or.inr rfl) h
    · replace h := h.2 (kb_f q)
      refine R_aload_n e_X1_readAll_1.2.2.2.2.2.2.2.2.1 0 rfl ?_
      refine R_getA 1 1 31 e_X1_readAll_1.2.2.2.2.2.2.2.2.2 f_X1_33 kx_57 (fun _ _ => rfl) rx_57_1 (by decide) ?_
      refine R_callV (mc := 0) (ms := 0) (mc' := 0) (ms' := 0) (M' := M_X0_hasLand) (d' := 0) (as := []) (st := []) 0 0 e_X1_readAll_2.1 (kCVof m_X0_hasLand l_X1_48) rfl (by decide) (kC_self isC_31) (by decide) (by decide) rfl rfl (by show (0 : Nat) ≤ 8; decide) ?_
      refine Run.mono h (fun r7 s8 h => ?_)
      refine R_eqs (st2 := [vI r7]) rfl rfl ?_
      obtain ⟨q9, h⟩ := h
      refine R_if_eq 53 e_X1_readAll_2.2.1 (by decide) q9  (fun q => ?_) (fun q => ?_)
      · replace h := h.1 q
        refine R_aload_n e_X1_readAll_2.2.2.2.2.2.1 0 rfl ?_
        refine R_callV (mc := 0) (ms := 0) (mc' := 0) (ms' := 0) (M' := M_X1_readLand) (d' := 6) (as := []) (st := []) 1 0 e_X1_readAll_2.2.2.2.2.2.2.1 (kCVof m_X1_readLand l_X1_54) rfl (by decide) kx_57 (by decide) (by decide) rfl rfl (by show (0 : Nat) ≤ 8; decide) ?_
        refine Run.mono h (fun r10 s11 h => ?_)
        refine R_eqs (st2 := [vI r10]) rfl rfl ?_
        refine R_istore_n (ls2 := [(2, vI r10), (0, vA G 57), (1, vI l1)]) e_X1_readAll_2.2.2.2.2.2.2.2.1 (by decide) rfl ?_
        refine R_iload_n e_X1_readAll_2.2.2.2.2.2.2.2.2.1 0 rfl ?_
        obtain ⟨q12, h⟩ := h
        refine R_if_eq 74 e_X1_readAll_2.2.2.2.2.2.2.2.2.2 (by decide) q12  (fun q => ?_) (fun q => ?_)
        · replace h := h.1 q
          refine R_iconst e_X1_readAll_3.2.2.2.2.2.1 ?_
          exact R_zreturn e_X1_readAll_3.2.2.2.2.2.2.1 rfl (Or.inl rfl) h
        · replace h := h.2 q
          refine R_aload_n e_X1_readAll_3.1 1 rfl ?_
          refine R_getA 1 0 3 e_X1_readAll_3.2.1 f_X1_29 kx_57 (fun _ _ => rfl) rx_57_0 (by decide) ?_
          refine R_bipush e_X1_readAll_3.2.2.1 (by decide) ?_
          refine R_callV (mc := 0) (ms := 0) (mc' := 0) (ms' := 0) (M' := M_X6_takeSign) (d' := 2) (as := [vI 59]) (st := []) 6 1 e_X1_readAll_3.2.2.2.1 (kCVof m_X6_takeSign l_X1_57) rfl (by decide) kx_3 (by decide) (by decide) rfl rfl (by show (0 : Nat) ≤ 8; decide) ?_
          refine Run.mono h (fun r13 s14 h => ?_)
          refine R_eqs (st2 := [vI r13]) rfl rfl ?_
          obtain ⟨q15, h⟩ := h
          refine R_if_ne 76 e_X1_readAll_3.2.2.2.2.1 (by decide) q15  (fun q => ?_) (fun q => ?_)
          · replace h := h.1 q
            refine R_iinc (ls2 := [(1, vI (l1 + 1)), (2, vI r10), (0, vA G 57)]) e_X1_readAll_3.2.2.2.2.2.2.2.1 2 rfl (by decide) rfl ?_
            refine R_goto 19 e_X1_readAll_3.2.2.2.2.2.2.2.2.1 (by decide) ?_
            refine R_ls (ls2 := [(0, vA G 57), (1, vI (l1 + 1))]) [2, 0] rfl ?_
            exact h
          · replace h := h.2 q
            refine R_iconst e_X1_readAll_3.2.2.2.2.2.1 ?_
            exact R_zreturn e_X1_readAll_3.2.2.2.2.2.2.1 rfl (Or.inl rfl) h
      · replace h := h.2 q
        refine R_aload_n e_X1_readAll_2.2.2.1 0 rfl ?_
        refine R_callV (mc := 0) (ms := 0) (mc' := 0) (ms' := 0) (M' := M_X1_readPart) (d' := 8) (as := []) (st := []) 1 0 e_X1_readAll_2.2.2.2.1 (kCVof m_X1_readPart l_X1_51) rfl (by decide) kx_57 (by decide) (by decide) rfl rfl (by show (0 : Nat) ≤ 8; decide) ?_
        refine Run.mono h (fun r16 s17 h => ?_)
        refine R_eqs (st2 := [vI r16]) rfl rfl ?_
        refine R_goto 57 e_X1_readAll_2.2.2.2.2.1 (by decide) ?_
        refine R_istore_n (ls2 := [(2, vI r16), (0, vA G 57), (1, vI l1)]) e_X1_readAll_2.2.2.2.2.2.2.2.1 (by decide) rfl ?_
        refine R_iload_n e_X1_readAll_2.2.2.2.2.2.2.2.2.1 0 rfl ?_
        obtain ⟨q18, h⟩ := h
        refine R_if_eq 74 e_X1_readAll_2.2.2.2.2.2.2.2.2.2 (by decide) q18  (fun q => ?_) (fun q => ?_)
        · replace h := h.1 q
          refine R_iconst e_X1_readAll_3.2.2.2.2.2.1 ?_
          exact R_zreturn e_X1_readAll_3.2.2.2.2.2.2.1 rfl (Or.inl rfl) h
        · replace h := h.2 q
          refine R_aload_n e_X1_readAll_3.1 1 rfl ?_
          refine R_getA 1 0 3 e_X1_readAll_3.2.1 f_X1_29 kx_57 (fun _ _ => rfl) rx_57_0 (by decide) ?_
          refine R_bipush e_X1_readAll_3.2.2.1 (by decide) ?_
          refine R_callV (mc := 0) (ms := 0) (mc' := 0) (ms' := 0) (M' := M_X6_takeSign) (d' := 2) (as := [vI 59]) (st := []) 6 1 e_X1_readAll_3.2.2.2.1 (kCVof m_X6_takeSign l_X1_57) rfl (by decide) kx_3 (by decide) (by decide) rfl rfl (by show (0 : Nat) ≤ 8; decide) ?_
          refine Run.mono h (fun r19 s20 h => ?_)
          refine R_eqs (st2 := [vI r19]) rfl rfl ?_
          obtain ⟨q21, h⟩ := h
          refine R_if_ne 76 e_X1_readAll_3.2.2.2.2.1 (by decide) q21  (fun q => ?_) (fun q => ?_)
          · replace h := h.1 q
            refine R_iinc (ls2 := [(1, vI (l1 + 1)), (2, vI r16), (0, vA G 57)]) e_X1_readAll_3.2.2.2.2.2.2.2.1 2 rfl (by decide) rfl ?_
            refine R_goto 19 e_X1_readAll_3.2.2.2.2.2.2.2.2.1 (by decide) ?_
            refine R_ls (ls2 := [(0, vA G 57), (1, vI (l1 + 1))]) [2, 0] rfl ?_
            exact h
          · replace h := h.2 q
            refine R_iconst e_X1_readAll_3.2.2.2.2.2.1 ?_
            exact R_zreturn e_X1_readAll_3.2.2.2.2.2.2.1 rfl (Or.inl rfl) h
