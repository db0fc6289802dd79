/-! KiteLandModel.test(I)Z -/
theorem e_X12_test_0 : decode cX12_test 0 = .ok (.aload_n 0, 1) ∧ decode cX12_test 1 = .ok (.ldc 186, 2) ∧ decode cX12_test 3 = .ok (.invokevirtual 178, 3) ∧ decode cX12_test 6 = .ok (.istore_n 2, 1) ∧ decode cX12_test 7 = .ok (.iload_n 2, 1) ∧ decode cX12_test 8 = .ok (.bipush 24, 2) ∧ decode cX12_test 10 = .ok (.if_icmp .ge 9, 3) ∧ decode cX12_test 13 = .ok (.aload_n 0, 1) ∧ decode cX12_test 14 = .ok (.iconst 2, 1) ∧ decode cX12_test 15 = .ok (.invokevirtual 175, 3) := by decide +kernel
theorem e_X12_test_1 : decode cX12_test 18 = .ok (.ireturn, 1) ∧ decode cX12_test 19 = .ok (.aload_n 0, 1) ∧ decode cX12_test 20 = .ok (.getfield 7, 3) ∧ decode cX12_test 23 = .ok (.iload_n 1, 1) ∧ decode cX12_test 24 = .ok (.sipush 2000, 3) ∧ decode cX12_test 27 = .ok (.iload_n 2, 1) ∧ decode cX12_test 28 = .ok (.iadd, 1) ∧ decode cX12_test 29 = .ok (.iastore, 1) ∧ decode cX12_test 30 = .ok (.aload_n 0, 1) ∧ decode cX12_test 31 = .ok (.invokevirtual 169, 3) := by decide +kernel
theorem e_X12_test_2 : decode cX12_test 34 = .ok (.iload_n 2, 1) ∧ decode cX12_test 35 = .ok (.bipush 25, 2) ∧ decode cX12_test 37 = .ok (.if_icmp .ne 19, 3) ∧ decode cX12_test 40 = .ok (.aload_n 0, 1) ∧ decode cX12_test 41 = .ok (.bipush 6, 2) ∧ decode cX12_test 43 = .ok (.aload_n 0, 1) ∧ decode cX12_test 44 = .ok (.getfield 7, 3) ∧ decode cX12_test 47 = .ok (.iconst 3, 1) ∧ decode cX12_test 48 = .ok (.iaload, 1) ∧ decode cX12_test 49 = .ok (.iload_n 1, 1) := by decide +kernel
theorem e_X12_test_3 : decode cX12_test 50 = .ok (.iconst 1, 1) ∧ decode cX12_test 51 = .ok (.iadd, 1) ∧ decode cX12_test 52 = .ok (.invokevirtual 212, 3) ∧ decode cX12_test 55 = .ok (.ireturn, 1) ∧ decode cX12_test 56 = .ok (.aload_n 0, 1) ∧ decode cX12_test 57 = .ok (.iload_n 1, 1) ∧ decode cX12_test 58 = .ok (.iconst 1, 1) ∧ decode cX12_test 59 = .ok (.iadd, 1) ∧ decode cX12_test 60 = .ok (.invokevirtual 247, 3) ∧ decode cX12_test 63 = .ok (.ifCond .ne 5, 3) := by decide +kernel
theorem e_X12_test_4 : decode cX12_test 66 = .ok (.iconst 0, 1) ∧ decode cX12_test 67 = .ok (.ireturn, 1) ∧ decode cX12_test 68 = .ok (.iload_n 2, 1) ∧ decode cX12_test 69 = .ok (.bipush 26, 2) ∧ decode cX12_test 71 = .ok (.if_icmp .ne 5, 3) ∧ decode cX12_test 74 = .ok (.iconst 1, 1) ∧ decode cX12_test 75 = .ok (.ireturn, 1) ∧ decode cX12_test 76 = .ok (.aload_n 0, 1) ∧ decode cX12_test 77 = .ok (.bipush 60, 2) ∧ decode cX12_test 79 = .ok (.invokevirtual 172, 3) := by decide +kernel
theorem e_X12_test_5 : decode cX12_test 82 = .ok (.ifCond .ne 27, 3) ∧ decode cX12_test 85 = .ok (.aload_n 0, 1) ∧ decode cX12_test 86 = .ok (.bipush 62, 2) ∧ decode cX12_test 88 = .ok (.invokevirtual 172, 3) ∧ decode cX12_test 91 = .ok (.ifCond .ne 18, 3) ∧ decode cX12_test 94 = .ok (.aload_n 0, 1) ∧ decode cX12_test 95 = .ok (.bipush 61, 2) ∧ decode cX12_test 97 = .ok (.invokevirtual 172, 3) ∧ decode cX12_test 100 = .ok (.ifCond .ne 9, 3) ∧ decode cX12_test 103 = .ok (.aload_n 0, 1) := by decide +kernel
theorem e_X12_test_6 : decode cX12_test 104 = .ok (.iconst 2, 1) ∧ decode cX12_test 105 = .ok (.invokevirtual 175, 3) ∧ decode cX12_test 108 = .ok (.ireturn, 1) ∧ decode cX12_test 109 = .ok (.aload_n 0, 1) ∧ decode cX12_test 110 = .ok (.getfield 7, 3) ∧ decode cX12_test 113 = .ok (.iload_n 1, 1) ∧ decode cX12_test 114 = .ok (.iconst 5, 1) ∧ decode cX12_test 115 = .ok (.iadd, 1) ∧ decode cX12_test 116 = .ok (.aload_n 0, 1) ∧ decode cX12_test 117 = .ok (.getfield 135, 3) := by decide +kernel
theorem e_X12_test_7 : decode cX12_test 120 = .ok (.iastore, 1) ∧ decode cX12_test 121 = .ok (.aload_n 0, 1) ∧ decode cX12_test 122 = .ok (.invokevirtual 169, 3) ∧ decode cX12_test 125 = .ok (.aload_n 0, 1) ∧ decode cX12_test 126 = .ok (.iload_n 1, 1) ∧ decode cX12_test 127 = .ok (.iconst 2, 1) ∧ decode cX12_test 128 = .ok (.iadd, 1) ∧ decode cX12_test 129 = .ok (.iconst 0, 1) ∧ decode cX12_test 130 = .ok (.sipush 9999, 3) ∧ decode cX12_test 133 = .ok (.invokevirtual 199, 3) := by decide +kernel
theorem e_X12_test_8 : decode cX12_test 136 = .ok (.ireturn, 1) := by decide +kernel
theorem S_X12_test {G : Kg} {σ : Kmem} {Q : Int → Kmem → Prop} {l1 : Int}  (h : (tok σ) ∧ (rI (tWi σ)) ∧ ((24 ≤ tWi σ → (0 ≤ l1 ∧ l1 < 3598) ∧ ∀ m6 : Kmem, m6 = (kup σ 1 l1 (2000 + (tWi σ))) → (tx0 m6) ∧ ((tWi σ ≠ 25 → (tk3 (tA m6) ∧ (0 : Int) ≤ (tA m6) 1 2 ∧ ((tA m6) 1 2 : Int) ≤ 6 ∧ (2056 : Int) ≤ (l1 + 1) ∧ ((l1 + 1) : Int) < 2570) ∧ ((((cKT ((l1 + 1)) (tA m6)).1) → ((tWi σ ≠ 26 → (tok ((cKT ((l1 + 1)) (tA m6)).2) ∧ rI (60)) ∧ (((tSg ((cKT ((l1 + 1)) (tA m6)).2) (60)) → (0 ≤ l1 + 5 ∧ l1 + 5 < 3598) ∧ ∀ m18 : Kmem, m18 = (kup ((cKT ((l1 + 1)) (tA m6)).2) 1 (l1 + 5) (((cKT ((l1 + 1)) (tA m6)).2) 0 15)) → (tx0 m18) ∧ (tk1 (tA m18) ∧ ((0 : Int) ≤ (l1 + 2) ∧ ((l1 + 2) : Int) < 3598) ∧ rI (0) ∧ rI (9999)) ∧ Q (kb ((cNum ((l1 + 2)) (0) (9999) (tA m18)).1)) ((cNum ((l1 + 2)) (0) (9999) (tA m18)).2)) ∧ (¬ (tSg ((cKT ((l1 + 1)) (tA m6)).2) (60)) → (tok ((cKT ((l1 + 1)) (tA m6)).2) ∧ rI (62)) ∧ (((tSg ((cKT ((l1 + 1)) (tA m6)).2) (62)) → (0 ≤ l1 + 5 ∧ l1 + 5 < 3598) ∧ ∀ m30 : Kmem, m30 = (kup ((cKT ((l1 + 1)) (tA m6)).2) 1 (l1 + 5) (((cKT ((l1 + 1)) (tA m6)).2) 0 15)) → (tx0 m30) ∧ (tk1 (tA m30) ∧ ((0 : Int) ≤ (l1 + 2) ∧ ((l1 + 2) : Int) < 3598) ∧ rI (0) ∧ rI (9999)) ∧ Q (kb ((cNum ((l1 + 2)) (0) (9999) (tA m30)).1)) ((cNum ((l1 + 2)) (0) (9999) (tA m30)).2)) ∧ (¬ (tSg ((cKT ((l1 + 1)) (tA m6)).2) (62)) → (tok ((cKT ((l1 + 1)) (tA m6)).2) ∧ rI (61)) ∧ (((tSg ((cKT ((l1 + 1)) (tA m6)).2) (61)) → (0 ≤ l1 + 5 ∧ l1 + 5 < 3598) ∧ ∀ m42 : Kmem, m42 = (kup ((cKT ((l1 + 1)) (tA m6)).2) 1 (l1 + 5) (((cKT ((l1 + 1)) (tA m6)).2) 0 15)) → (tx0 m42) ∧ (tk1 (tA m42) ∧ ((0 : Int) ≤ (l1 + 2) ∧ ((l1 + 2) : Int) < 3598) ∧ rI (0) ∧ rI (9999)) ∧ Q (kb ((cNum ((l1 + 2)) (0) (9999) (tA m42)).1)) ((cNum ((l1 + 2)) (0) (9999) (tA m42)).2)) ∧ (¬ (tSg ((cKT ((l1 + 1)) (tA m6)).2) (61)) → (tok ((cKT ((l1 + 1)) (tA m6)).2) ∧ (0 : Int) ≤ ((cKT ((l1 + 1)) (tA m6)).2) 0 18 ∧ (((cKT ((l1 + 1)) (tA m6)).2) 0 18 : Int) ≤ 9) ∧ Q 0 (tF ((cKT ((l1 + 1)) (tA m6)).2) (2))))))))) ∧ (tWi σ = 26 → Q 1 ((cKT ((l1 + 1)) (tA m6)).2)))) ∧ (¬ ((cKT ((l1 + 1)) (tA m6)).1) → Q 0 ((cKT ((l1 + 1)) (tA m6)).2)))) ∧ (tWi σ = 25 → (tk3 (tA m6) ∧ pOld (6) (((tA m6) 1 3)) ((l1 + 1))) ∧ Q (kb ((cOld (6) (((tA m6) 1 3)) ((l1 + 1)) (tA m6)).1)) ((cOld (6) (((tA m6) 1 3)) ((l1 + 1)) (tA m6)).2)))) ∧ (tWi σ < 24 → (tok σ ∧ (0 : Int) ≤ σ 0 18 ∧ (σ 0 18 : Int) ≤ 9) ∧ Q 0 (tF σ (2))))) : Run G WM M_X12_test 8 0 0 [vA G 0, vI l1] σ Q := by
  refine Run.of (by decide +kernel) (by show (2 : Nat) ≤ 3; decide) ?_
  show Ex G WM M_X12_test 8 0 0 0 [(0, vA G 0), (1, vI l1)] [] σ Q
  refine R_aload_n e_X12_test_0.1 0 rfl ?_
  refine R_ldcS (i := 28) (-38) e_X12_test_0.2.1 rfl rfl ?_
  obtain ⟨q3, h⟩ := h
  refine R_callV (mc := 0) (ms := 0) (mc' := 0) (ms' := 0) (M' := M_X12_inWords) (d' := 4) (as := [vA G (-38)]) (st := []) 12 1 e_X12_test_0.2.2.1 (kCVof m_X12_inWords l_X12_178) rfl (by decide) km_0 (by decide) (by decide) rfl rfl (by show (0 : Nat) ≤ 8; decide) ?_
  refine Run.mono (P_X12_inWords q3) (fun r s e => ?_)
  obtain ⟨e1, e2⟩ := e
  refine R_eqs (st2 := [vI (tWi σ)]) (σ2 := σ) (by rw [e1]; rfl) e2 ?_
  refine R_istore_n (ls2 := [(2, vI (tWi σ)), (0, vA G 0), (1, vI l1)]) e_X12_test_0.2.2.2.1 (by decide) rfl ?_
  refine R_iload_n e_X12_test_0.2.2.2.2.1 0 rfl ?_
  refine R_bipush e_X12_test_0.2.2.2.2.2.1 (by decide) ?_
  obtain ⟨q4, h⟩ := h
  refine R_icmp_ge 19 e_X12_test_0.2.2.2.2.2.2.1 (by decide) q4 (by decide) (fun q => ?_) (fun q => ?_)
  · replace h := h.1 q
    refine R_aload_n e_X12_test_1.2.1 1 rfl ?_
    refine R_getA 12 0 1 e_X12_test_1.2.2.1 f_X12_7 km_0 (fun _ _ => rfl) rm_0_0 (by decide) ?_
    refine R_iload_n e_X12_test_1.2.2.2.1 2 rfl ?_
    refine R_sipush e_X12_test_1.2.2.2.2.1 (by decide) ?_
    refine R_iload_n e_X12_test_1.2.2.2.2.2.1 0 rfl ?_
    refine R_iadd e_X12_test_1.2.2.2.2.2.2.1 ?_
    obtain ⟨q5, h⟩ := h
    refine R_iast 3598 WM_ok e_X12_test_1.2.2.2.2.2.2.2.1 kma_1 q5 ?_
    obtain ⟨m6, e7⟩ : ∃ z : Kmem, z = (kup σ 1 l1 (2000 + (tWi σ))) := ⟨_, rfl⟩
    rw [← e7]
    replace h := h m6 e7
    refine R_aload_n e_X12_test_1.2.2.2.2.2.2.2.2.1 1 rfl ?_
    obtain ⟨q10, h⟩ := h
    refine R_callV (mc := 0) (ms := 0) (mc' := 0) (ms' := 0) (M' := M_X12_ahead) (d' := 1) (as := []) (st := []) 12 0 e_X12_test_1.2.2.2.2.2.2.2.2.2 (kCVof m_X12_ahead l_X12_169) rfl (by decide) km_0 (by decide) (by decide) rfl rfl (by show (0 : Nat) ≤ 8; decide) ?_
    refine Run.mono (P_X12_ahead q10) (fun r s e => ?_)
    obtain ⟨e1, e2⟩ := e
    refine R_eqs (st2 := []) (σ2 := (tA m6)) (by rfl) e2 ?_
    refine R_iload_n e_X12_test_2.1 0 rfl ?_
    refine R_bipush e_X12_test_2.2.1 (by decide) ?_
    refine R_icmp_ne 56 e_X12_test_2.2.2.1 (by decide) q4 (by decide) (fun q => ?_) (fun q => ?_)
    · replace h := h.1 q
      refine R_aload_n e_X12_test_3.2.2.2.2.1 1 rfl ?_
      refine R_iload_n e_X12_test_3.2.2.2.2.2.1 2 rfl ?_
      refine R_iconst e_X12_test_3.2.2.2.2.2.2.1 ?_
      refine R_iadd e_X12_test_3.2.2.2.2.2.2.2.1 ?_
      obtain ⟨q13, h⟩ := h
      refine R_callV (mc := 0) (ms := 0) (mc' := 0) (ms' := 0) (M' := M_X12_kiteTo) (d' := 7) (as := [vI (l1 + 1)]) (st := []) 12 1 e_X12_test_3.2.2.2.2.2.2.2.2.1 (kCVof m_X12_kiteTo l_X12_247) rfl (by decide) km_0 (by decide) (by decide) rfl rfl (by show (0 : Nat) ≤ 8; decide) ?_
      refine Run.mono (P_X12_kiteTo q13) (fun r s e => ?_)
      obtain ⟨e1, e2⟩ := e
      refine R_eqs (st2 := [vI (kb ((cKT ((l1 + 1)) (tA m6)).1))]) (σ2 := ((cKT ((l1 + 1)) (tA m6)).2)) (by rw [e1]; rfl) e2 ?_
      refine R_if_ne 68 e_X12_test_3.2.2.2.2.2.2.2.2.2 (by decide) (kb_r _) (fun q => ?_) (fun q => ?_)
      · replace h := h.1 (kb_t q)
        refine R_iload_n e_X12_test_4.2.2.1 0 rfl ?_
        refine R_bipush e_X12_test_4.2.2.2.1 (by decide) ?_
        refine R_icmp_ne 76 e_X12_test_4.2.2.2.2.1 (by decide) q4 (by decide) (fun q => ?_) (fun q => ?_)
        · replace h := h.1 q
          refine R_aload_n e_X12_test_4.2.2.2.2.2.2.2.1 1 rfl ?_
          refine R_bipush e_X12_test_4.2.2.2.2.2.2.2.2.1 (by decide) ?_
          obtain ⟨q16, h⟩ := h
          refine R_callV (mc := 0) (ms := 0) (mc' := 0) (ms' := 0) (M' := M_X12_isSign) (d' := 0) (as := [vI 60]) (st := []) 12 1 e_X12_test_4.2.2.2.2.2.2.2.2.2 (kCVof m_X12_isSign l_X12_172) rfl (by decide) km_0 (by decide) (by decide) rfl rfl (by show (0 : Nat) ≤ 8; decide) ?_
          refine Run.mono (P_X12_isSign q16) (fun r s e => ?_)
          obtain ⟨e1, e2⟩ := e
          refine R_eqs (st2 := [vI (kb (tSg ((cKT ((l1 + 1)) (tA m6)).2) (60)))]) (σ2 := ((cKT ((l1 + 1)) (tA m6)).2)) (by rw [e1]; rfl) e2 ?_
          refine R_if_ne 109 e_X12_test_5.1 (by decide) (kb_r _) (fun q => ?_) (fun q => ?_)
          · replace h := h.1 (kb_t q)
            refine R_aload_n e_X12_test_6.2.2.2.1 1 rfl ?_
            refine R_getA 12 0 1 e_X12_test_6.2.2.2.2.1 f_X12_7 km_0 (fun _ _ => rfl) rm_0_0 (by decide) ?_
            refine R_iload_n e_X12_test_6.2.2.2.2.2.1 2 rfl ?_
            refine R_iconst e_X12_test_6.2.2.2.2.2.2.1 ?_
            refine R_iadd e_X12_test_6.2.2.2.2.2.2.2.1 ?_
            refine R_aload_n e_X12_test_6.2.2.2.2.2.2.2.2.1 1 rfl ?_
            refine R_getI 12 15 15 e_X12_test_6.2.2.2.2.2.2.2.2.2 f_X12_135 km_0 (fun _ _ => rfl) rfl ?_
            obtain ⟨q17, h⟩ := h
            refine R_iast 3598 WM_ok e_X12_test_7.1 kma_1 q17 ?_
            obtain ⟨m18, e19⟩ : ∃ z : Kmem, z = (kup ((cKT ((l1 + 1)) (tA m6)).2) 1 (l1 + 5) (((cKT ((l1 + 1)) (tA m6)).2) 0 15)) := ⟨_, rfl⟩
            rw [← e19]
            replace h := h m18 e19
            refine R_aload_n e_X12_test_7.2.1 1 rfl ?_
            obtain ⟨q22, h⟩ := h
            refine R_callV (mc := 0) (ms := 0) (mc' := 0) (ms' := 0) (M' := M_X12_ahead) (d' := 1) (as := []) (st := []) 12 0 e_X12_test_7.2.2.1 (kCVof m_X12_ahead l_X12_169) rfl (by decide) km_0 (by decide) (by decide) rfl rfl (by show (0 : Nat) ≤ 8; decide) ?_
            refine Run.mono (P_X12_ahead q22) (fun r s e => ?_)
            obtain ⟨e1, e2⟩ := e
            refine R_eqs (st2 := []) (σ2 := (tA m18)) (by rfl) e2 ?_
            refine R_aload_n e_X12_test_7.2.2.2.1 1 rfl ?_
            refine R_iload_n e_X12_test_7.2.2.2.2.1 2 rfl ?_
            refine R_iconst e_X12_test_7.2.2.2.2.2.1 ?_
            refine R_iadd e_X12_test_7.2.2.2.2.2.2.1 ?_
            refine R_iconst e_X12_test_7.2.2.2.2.2.2.2.1 ?_
            refine R_sipush e_X12_test_7.2.2.2.2.2.2.2.2.1 (by decide) ?_
            obtain ⟨q25, h⟩ := h
            refine R_callV (mc := 0) (ms := 0) (mc' := 0) (ms' := 0) (M' := M_X12_number) (d' := 2) (as := [vI (l1 + 2), vI 0, vI 9999]) (st := []) 12 3 e_X12_test_7.2.2.2.2.2.2.2.2.2 (kCVof m_X12_number l_X12_199) rfl (by decide) km_0 (by decide) (by decide) rfl rfl (by show (0 : Nat) ≤ 8; decide) ?_
            refine Run.mono (P_X12_number q25) (fun r s e => ?_)
            obtain ⟨e1, e2⟩ := e
            refine R_eqs (st2 := [vI (kb ((cNum ((l1 + 2)) (0) (9999) (tA m18)).1))]) (σ2 := ((cNum ((l1 + 2)) (0) (9999) (tA m18)).2)) (by rw [e1]; rfl) e2 ?_
            exact R_zreturn e_X12_test_8 rfl (kb_01 _) h
          · replace h := h.2 (kb_f q)
            refine R_aload_n e_X12_test_5.2.1 1 rfl ?_
            refine R_bipush e_X12_test_5.2.2.1 (by decide) ?_
            obtain ⟨q28, h⟩ := h
            refine R_callV (mc := 0) (ms := 0) (mc' := 0) (ms' := 0) (M' := M_X12_isSign) (d' := 0) (as := [vI 62]) (st := []) 12 1 e_X12_test_5.2.2.2.1 (kCVof m_X12_isSign l_X12_172) rfl (by decide) km_0 (by decide) (by decide) rfl rfl (by show (0 : Nat) ≤ 8; decide) ?_
            refine Run.mono (P_X12_isSign q28) (fun r s e => ?_)
            obtain ⟨e1, e2⟩ := e
            refine R_eqs (st2 := [vI (kb (tSg ((cKT ((l1 + 1)) (tA m6)).2) (62)))]) (σ2 := ((cKT ((l1 + 1)) (tA m6)).2)) (by rw [e1]; rfl) e2 ?_
            refine R_if_ne 109 e_X12_test_5.2.2.2.2.1 (by decide) (kb_r _) (fun q => ?_) (fun q => ?_)
            · replace h := h.1 (kb_t q)
              refine R_aload_n e_X12_test_6.2.2.2.1 1 rfl ?_
              refine R_getA 12 0 1 e_X12_test_6.2.2.2.2.1 f_X12_7 km_0 (fun _ _ => rfl) rm_0_0 (by decide) ?_
              refine R_iload_n e_X12_test_6.2.2.2.2.2.1 2 rfl ?_
              refine R_iconst e_X12_test_6.2.2.2.2.2.2.1 ?_
              refine R_iadd e_X12_test_6.2.2.2.2.2.2.2.1 ?_
              refine R_aload_n e_X12_test_6.2.2.2.2.2.2.2.2.1 1 rfl ?_
              refine R_getI 12 15 15 e_X12_test_6.2.2.2.2.2.2.2.2.2 f_X12_135 km_0 (fun _ _ => rfl) rfl ?_
              obtain ⟨q29, h⟩ := h
              refine R_iast 3598 WM_ok e_X12_test_7.1 kma_1 q29 ?_
              obtain ⟨m30, e31⟩ : ∃ z : Kmem, z = (kup ((cKT ((l1 + 1)) (tA m6)).2) 1 (l1 + 5) (((cKT ((l1 + 1)) (tA m6)).2) 0 15)) := ⟨_, rfl⟩
              rw [← e31]
              replace h := h m30 e31
              refine R_aload_n e_X12_test_7.2.1 1 rfl ?_
              obtain ⟨q34, h⟩ := h
              refine R_callV (mc := 0) (ms := 0) (mc' := 0) (ms' := 0) (M' := M_X12_ahead) (d' := 1) (as := []) (st := []) 12 0 e_X12_test_7.2.2.1 (kCVof m_X12_ahead l_X12_169) rfl (by decide) km_0 (by decide) (by decide) rfl rfl (by show (0 : Nat) ≤ 8; decide) ?_
              refine Run.mono (P_X12_ahead q34) (fun r s e => ?_)
              obtain ⟨e1, e2⟩ := e
              refine R_eqs (st2 := []) (σ2 := (tA m30)) (by rfl) e2 ?_
              refine R_aload_n e_X12_test_7.2.2.2.1 1 rfl ?_
              refine R_iload_n e_X12_test_7.2.2.2.2.1 2 rfl ?_
              refine R_iconst e_X12_test_7.2.2.2.2.2.1 ?_
              refine R_iadd e_X12_test_7.2.2.2.2.2.2.1 ?_
              refine R_iconst e_X12_test_7.2.2.2.2.2.2.2.1 ?_
              refine R_sipush e_X12_test_7.2.2.2.2.2.2.2.2.1 (by decide) ?_
              obtain ⟨q37, h⟩ := h
              refine R_callV (mc := 0) (ms := 0) (mc' := 0) (ms' := 0) (M' := M_X12_number) (d' := 2) (as := [vI (l1 + 2), vI 0, vI 9999]) (st := []) 12 3 e_X12_test_7.2.2.2.2.2.2.2.2.2 (kCVof m_X12_number l_X12_199) rfl (by decide) km_0 (by decide) (by decide) rfl rfl (by show (0 : Nat) ≤ 8; decide) ?_
              refine Run.mono (P_X12_number q37) (fun r s e => ?_)
              obtain ⟨e1, e2⟩ := e
              refine R_eqs (st2 := [vI (kb ((cNum ((l1 + 2)) (0) (9999) (tA m30)).1))]) (σ2 := ((cNum ((l1 + 2)) (0) (9999) (tA m30)).2)) (by rw [e1]; rfl) e2 ?_
              exact R_zreturn e_X12_test_8 rfl (kb_01 _) h
            · replace h := h.2 (kb_f q)
              refine R_aload_n e_X12_test_5.2.2.2.2.2.1 1 rfl ?_
              refine R_bipush e_X12_test_5.2.2.2.2.2.2.1 (by decide) ?_
              obtain ⟨q40, h⟩ := h
              refine R_callV (mc := 0) (ms := 0) (mc' := 0) (ms' := 0) (M' := M_X12_isSign) (d' := 0) (as := [vI 61]) (st := []) 12 1 e_X12_test_5.2.2.2.2.2.2.2.1 (kCVof m_X12_isSign l_X12_172) rfl (by decide) km_0 (by decide) (by decide) rfl rfl (by show (0 : Nat) ≤ 8; decide) ?_
              refine Run.mono (P_X12_isSign q40) (fun r s e => ?_)
              obtain ⟨e1, e2⟩ := e
              refine R_eqs (st2 := [vI (kb (tSg ((cKT ((l1 + 1)) (tA m6)).2) (61)))]) (σ2 := ((cKT ((l1 + 1)) (tA m6)).2)) (by rw [e1]; rfl) e2 ?_
              refine R_if_ne 109 e_X12_test_5.2.2.2.2.2.2.2.2.1 (by decide) (kb_r _) (fun q => ?_) (fun q => ?_)
              · replace h := h.1 (kb_t q)
                refine R_aload_n e_X12_test_6.2.2.2.1 1 rfl ?_
                refine R_getA 12 0 1 e_X12_test_6.2.2.2.2.1 f_X12_7 km_0 (fun _ _ => rfl) rm_0_0 (by decide) ?_
                refine R_iload_n e_X12_test_6.2.2.2.2.2.1 2 rfl ?_
                refine R_iconst e_X12_test_6.2.2.2.2.2.2.1 ?_
                refine R_iadd e_X12_test_6.2.2.2.2.2.2.2.1 ?_
                refine R_aload_n e_X12_test_6.2.2.2.2.2.2.2.2.1 1 rfl ?_
                refine R_getI 12 15 15 e_X12_test_6.2.2.2.2.2.2.2.2.2 f_X12_135 km_0 (fun _ _ => rfl) rfl ?_
                obtain ⟨q41, h⟩ := h
                refine R_iast 3598 WM_ok e_X12_test_7.1 kma_1 q41 ?_
                obtain ⟨m42, e43⟩ : ∃ z : Kmem, z = (kup ((cKT ((l1 + 1)) (tA m6)).2) 1 (l1 + 5) (((cKT ((l1 + 1)) (tA m6)).2) 0 15)) := ⟨_, rfl⟩
                rw [← e43]
                replace h := h m42 e43
                refine R_aload_n e_X12_test_7.2.1 1 rfl ?_
                obtain ⟨q46, h⟩ := h
                refine R_callV (mc := 0) (ms := 0) (mc' := 0) (ms' := 0) (M' := M_X12_ahead) (d' := 1) (as := []) (st := []) 12 0 e_X12_test_7.2.2.1 (kCVof m_X12_ahead l_X12_169) rfl (by decide) km_0 (by decide) (by decide) rfl rfl (by show (0 : Nat) ≤ 8; decide) ?_
                refine Run.mono (P_X12_ahead q46) (fun r s e => ?_)
                obtain ⟨e1, e2⟩ := e
                refine R_eqs (st2 := []) (σ2 := (tA m42)) (by rfl) e2 ?_
                refine R_aload_n e_X12_test_7.2.2.2.1 1 rfl ?_
                refine R_iload_n e_X12_test_7.2.2.2.2.1 2 rfl ?_
                refine R_iconst e_X12_test_7.2.2.2.2.2.1 ?_
                refine R_iadd e_X12_test_7.2.2.2.2.2.2.1 ?_
                refine R_iconst e_X12_test_7.2.2.2.2.2.2.2.1 ?_
                refine R_sipush e_X12_test_7.2.2.2.2.2.2.2.2.1 (by decide) ?_
                obtain ⟨q49, h⟩ := h
                refine R_callV (mc := 0) (ms := 0) (mc' := 0) (ms' := 0) (M' := M_X12_number) (d' := 2) (as := [vI (l1 + 2), vI 0, vI 9999]) (st := []) 12 3 e_X12_test_7.2.2.2.2.2.2.2.2.2 (kCVof m_X12_number l_X12_199) rfl (by decide) km_0 (by decide) (by decide) rfl rfl (by show (0 : Nat) ≤ 8; decide) ?_
                refine Run.mono (P_X12_number q49) (fun r s e => ?_)
                obtain ⟨e1, e2⟩ := e
                refine R_eqs (st2 := [vI (kb ((cNum ((l1 + 2)) (0) (9999) (tA m42)).1))]) (σ2 := ((cNum ((l1 + 2)) (0) (9999) (tA m42)).2)) (by rw [e1]; rfl) e2 ?_
                exact R_zreturn e_X12_test_8 rfl (kb_01 _) h
              · replace h := h.2 (kb_f q)
                refine R_aload_n e_X12_test_5.2.2.2.2.2.2.2.2.2 1 rfl ?_
                refine R_iconst e_X12_test_6.1 ?_
                obtain ⟨q52, h⟩ := h
                refine R_callV (mc := 0) (ms := 0) (mc' := 0) (ms' := 0) (M' := M_X12_fails) (d' := 0) (as := [vI 2]) (st := []) 12 1 e_X12_test_6.2.1 (kCVof m_X12_fails l_X12_175) rfl (by decide) km_0 (by decide) (by decide) rfl rfl (by show (0 : Nat) ≤ 8; decide) ?_
                refine Run.mono (P_X12_fails q52) (fun r s e => ?_)
                obtain ⟨e1, e2⟩ := e
                refine R_eqs (st2 := [vI 0]) (σ2 := (tF ((cKT ((l1 + 1)) (tA m6)).2) (2))) (by rw [e1]; rfl) e2 ?_
                exact R_zreturn e_X12_test_6.2.2.1 rfl (Or.inl rfl) h
        · replace h := h.2 q
          refine R_iconst e_X12_test_4.2.2.2.2.2.1 ?_
          exact R_zreturn e_X12_test_4.2.2.2.2.2.2.1 rfl (Or.inr rfl) h
      · replace h := h.2 (kb_f q)
        refine R_iconst e_X12_test_4.1 ?_
        exact R_zreturn e_X12_test_4.2.1 rfl (Or.inl rfl) h
    · replace h := h.2 q
      refine R_aload_n e_X12_test_2.2.2.2.1 1 rfl ?_
      refine R_bipush e_X12_test_2.2.2.2.2.1 (by decide) ?_
      refine R_aload_n e_X12_test_2.2.2.2.2.2.1 1 rfl ?_
      refine R_getA 12 0 1 e_X12_test_2.2.2.2.2.2.2.1 f_X12_7 km_0 (fun _ _ => rfl) rm_0_0 (by decide) ?_
      refine R_iconst e_X12_test_2.2.2.2.2.2.2.2.1 ?_
      refine R_iald 3598 e_X12_test_2.2.2.2.2.2.2.2.2.1 kma_1 (by decide) ?_
      refine R_iload_n e_X12_test_2.2.2.2.2.2.2.2.2.2 2 rfl ?_
      refine R_iconst e_X12_test_3.1 ?_
      refine R_iadd e_X12_test_3.2.1 ?_
      obtain ⟨q55, h⟩ := h
      refine R_callV (mc := 0) (ms := 0) (mc' := 0) (ms' := 0) (M' := M_X12_oldOne) (d' := 6) (as := [vI 6, vI ((tA m6) 1 3), vI (l1 + 1)]) (st := []) 12 3 e_X12_test_3.2.2.1 (kCVof m_X12_oldOne l_X12_212) rfl (by decide) km_0 (by decide) (by decide) rfl rfl (by show (0 : Nat) ≤ 8; decide) ?_
      refine Run.mono (P_X12_oldOne q55) (fun r s e => ?_)
      obtain ⟨e1, e2⟩ := e
      refine R_eqs (st2 := [vI (kb ((cOld (6) (((tA m6) 1 3)) ((l1 + 1)) (tA m6)).1))]) (σ2 := ((cOld (6) (((tA m6) 1 3)) ((l1 + 1)) (tA m6)).2)) (by rw [e1]; rfl) e2 ?_
      exact R_zreturn e_X12_test_3.2.2.2.1 rfl (kb_01 _) h
  · replace h := h.2 q
    refine R_aload_n e_X12_test_0.2.2.2.2.2.2.2.1 1 rfl ?_
    refine R_iconst e_X12_test_0.2.2.2.2.2.2.2.2.1 ?_
    obtain ⟨q58, h⟩ := h
    refine R_callV (mc := 0) (ms := 0) (mc' := 0) (ms' := 0) (M' := M_X12_fails) (d' := 0) (as := [vI 2]) (st := []) 12 1 e_X12_test_0.2.2.2.2.2.2.2.2.2 (kCVof m_X12_fails l_X12_175) rfl (by decide) km_0 (by decide) (by decide) rfl rfl (by show (0 : Nat) ≤ 8; decide) ?_
    refine Run.mono (P_X12_fails q58) (fun r s e => ?_)
    obtain ⟨e1, e2⟩ := e
    refine R_eqs (st2 := [vI 0]) (σ2 := (tF σ (2))) (by rw [e1]; rfl) e2 ?_
    exact R_zreturn e_X12_test_1.1 rfl (Or.inl rfl) h
