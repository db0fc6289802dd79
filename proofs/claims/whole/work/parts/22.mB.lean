/-! KiteLandModel.isUp(II)Z -/
theorem e_X12_isUp_0 : decode cX12_isUp 0 = .ok (.aload_n 0, 1) ∧ decode cX12_isUp 1 = .ok (.iload_n 1, 1) ∧ decode cX12_isUp 2 = .ok (.invokevirtual 271, 3) ∧ decode cX12_isUp 5 = .ok (.ifCond .ne 16, 3) ∧ decode cX12_isUp 8 = .ok (.aload_n 0, 1) ∧ decode cX12_isUp 9 = .ok (.iload_n 1, 1) ∧ decode cX12_isUp 10 = .ok (.iload_n 2, 1) ∧ decode cX12_isUp 11 = .ok (.invokevirtual 274, 3) ∧ decode cX12_isUp 14 = .ok (.ifCond .eq 7, 3) ∧ decode cX12_isUp 17 = .ok (.iconst 1, 1) := by decide +kernel
theorem e_X12_isUp_1 : decode cX12_isUp 18 = .ok (.goto 4, 3) ∧ decode cX12_isUp 21 = .ok (.iconst 0, 1) ∧ decode cX12_isUp 22 = .ok (.ireturn, 1) := by decide +kernel
theorem S_X12_isUp {G : Kg} {σ : Kmem} {Q : Int → Kmem → Prop} {l1 l2 : Int}  (h : (wf (σ 1) ∧ sKt (σ 1) (l1)) ∧ ((((σ 1) (34 + 9 * (l1) + 8) = 1) → Q 0 σ) ∧ (¬ ((σ 1) (34 + 9 * (l1) + 8) = 1) → (wf (σ 1) ∧ sKt (σ 1) (l1) ∧ sHr (l2)) ∧ ((¬ (sBorne (σ 1) (l1) (l2)) → Q 0 σ) ∧ ((sBorne (σ 1) (l1) (l2)) → Q 1 σ))))) : Run G WM M_X12_isUp 3 0 0 [vA G 0, vI l1, vI l2] σ Q := by
  refine Run.of (by decide +kernel) (by show (3 : Nat) ≤ 3; decide) ?_
  show Ex G WM M_X12_isUp 3 0 0 0 [(0, vA G 0), (1, vI l1), (2, vI l2)] [] σ Q
  refine R_aload_n e_X12_isUp_0.1 0 rfl ?_
  refine R_iload_n e_X12_isUp_0.2.1 1 rfl ?_
  obtain ⟨q3, h⟩ := h
  refine R_callV (mc := 0) (ms := 0) (mc' := 0) (ms' := 0) (M' := M_X12_isCut) (d' := 2) (as := [vI l1]) (st := []) 12 1 e_X12_isUp_0.2.2.1 (kCVof m_X12_isCut l_X12_271) rfl (by decide) km_0 (by decide) (by decide) rfl rfl (by show (0 : Nat) ≤ 8; decide) ?_
  refine Run.mono (P_X12_isCut q3) (fun r s e => ?_)
  obtain ⟨e1, e2⟩ := e
  refine R_eqs (st2 := [vI (kb ((σ 1) (34 + 9 * (l1) + 8) = 1))]) (σ2 := σ) (by rw [e1]; rfl) e2 ?_
  refine R_if_ne 21 e_X12_isUp_0.2.2.2.1 (by decide) (kb_r _) (fun q => ?_) (fun q => ?_)
  · replace h := h.1 (kb_t q)
    refine R_iconst e_X12_isUp_1.2.1 ?_
    exact R_zreturn e_X12_isUp_1.2.2 rfl (Or.inl rfl) h
  · replace h := h.2 (kb_f q)
    refine R_aload_n e_X12_isUp_0.2.2.2.2.1 0 rfl ?_
    refine R_iload_n e_X12_isUp_0.2.2.2.2.2.1 1 rfl ?_
    refine R_iload_n e_X12_isUp_0.2.2.2.2.2.2.1 2 rfl ?_
    obtain ⟨q6, h⟩ := h
    refine R_callV (mc := 0) (ms := 0) (mc' := 0) (ms' := 0) (M' := M_X12_isBorne) (d' := 2) (as := [vI l1, vI l2]) (st := []) 12 2 e_X12_isUp_0.2.2.2.2.2.2.2.1 (kCVof m_X12_isBorne l_X12_274) rfl (by decide) km_0 (by decide) (by decide) rfl rfl (by show (0 : Nat) ≤ 8; decide) ?_
    refine Run.mono (P_X12_isBorne q6) (fun r s e => ?_)
    obtain ⟨e1, e2⟩ := e
    refine R_eqs (st2 := [vI (kb (sBorne (σ 1) (l1) (l2)))]) (σ2 := σ) (by rw [e1]; rfl) e2 ?_
    refine R_if_eq 21 e_X12_isUp_0.2.2.2.2.2.2.2.2.1 (by decide) (kb_r _) (fun q => ?_) (fun q => ?_)
    · replace h := h.1 (kb_f q)
      refine R_iconst e_X12_isUp_1.2.1 ?_
      exact R_zreturn e_X12_isUp_1.2.2 rfl (Or.inl rfl) h
    · replace h := h.2 (kb_t q)
      refine R_iconst e_X12_isUp_0.2.2.2.2.2.2.2.2.2 ?_
      refine R_goto 22 e_X12_isUp_1.1 (by decide) ?_
      exact R_zreturn e_X12_isUp_1.2.2 rfl (Or.inr rfl) h
/-! KiteLandModel.columnOf(II)I -/
theorem e_X12_columnOf_0 : decode cX12_columnOf 0 = .ok (.aload_n 0, 1) ∧ decode cX12_columnOf 1 = .ok (.iload_n 1, 1) ∧ decode cX12_columnOf 2 = .ok (.iload_n 2, 1) ∧ decode cX12_columnOf 3 = .ok (.invokevirtual 277, 3) ∧ decode cX12_columnOf 6 = .ok (.istore_n 3, 1) ∧ decode cX12_columnOf 7 = .ok (.aload_n 0, 1) ∧ decode cX12_columnOf 8 = .ok (.iload_n 1, 1) ∧ decode cX12_columnOf 9 = .ok (.iconst 0, 1) ∧ decode cX12_columnOf 10 = .ok (.invokevirtual 268, 3) ∧ decode cX12_columnOf 13 = .ok (.aload_n 0, 1) := by decide +kernel
theorem e_X12_columnOf_1 : decode cX12_columnOf 14 = .ok (.iload_n 1, 1) ∧ decode cX12_columnOf 15 = .ok (.iload_n 2, 1) ∧ decode cX12_columnOf 16 = .ok (.invokevirtual 280, 3) ∧ decode cX12_columnOf 19 = .ok (.iload_n 3, 1) ∧ decode cX12_columnOf 20 = .ok (.ifCond .le 12, 3) ∧ decode cX12_columnOf 23 = .ok (.iload_n 3, 1) ∧ decode cX12_columnOf 24 = .ok (.iconst 4, 1) ∧ decode cX12_columnOf 25 = .ok (.if_icmp .ge 7, 3) ∧ decode cX12_columnOf 28 = .ok (.iconst 1, 1) ∧ decode cX12_columnOf 29 = .ok (.goto 13, 3) := by decide +kernel
theorem e_X12_columnOf_2 : decode cX12_columnOf 32 = .ok (.iload_n 3, 1) ∧ decode cX12_columnOf 33 = .ok (.iconst 4, 1) ∧ decode cX12_columnOf 34 = .ok (.if_icmp .le 7, 3) ∧ decode cX12_columnOf 37 = .ok (.iconst (-1), 1) ∧ decode cX12_columnOf 38 = .ok (.goto 4, 3) ∧ decode cX12_columnOf 41 = .ok (.iconst 0, 1) ∧ decode cX12_columnOf 42 = .ok (.imul, 1) ∧ decode cX12_columnOf 43 = .ok (.iadd, 1) ∧ decode cX12_columnOf 44 = .ok (.ireturn, 1) := by decide +kernel
theorem S_X12_columnOf {G : Kg} {σ : Kmem} {Q : Int → Kmem → Prop} {l1 l2 : Int}  (h : (wf (σ 1) ∧ sKt (σ 1) (l1) ∧ sHr (l2)) ∧ (0 ≤ (34 + (9 * l1)) + 0 ∧ (34 + (9 * l1)) + 0 < 3598) ∧ (wf (σ 1) ∧ sKt (σ 1) (l1) ∧ sHr (l2)) ∧ (rI (sTrn (σ 1) (l1) (l2))) ∧ ((sTrn (σ 1) (l1) (l2) ≤ 0 → ((sTrn (σ 1) (l1) (l2) ≤ 4 → Q ((σ 1 ((34 + (9 * l1)) + 0)) + ((sFar (σ 1) (l1) (l2)) * 0)) σ) ∧ (4 < sTrn (σ 1) (l1) (l2) → Q ((σ 1 ((34 + (9 * l1)) + 0)) + ((sFar (σ 1) (l1) (l2)) * (-1))) σ))) ∧ (0 < sTrn (σ 1) (l1) (l2) → ((4 ≤ sTrn (σ 1) (l1) (l2) → ((sTrn (σ 1) (l1) (l2) ≤ 4 → Q ((σ 1 ((34 + (9 * l1)) + 0)) + ((sFar (σ 1) (l1) (l2)) * 0)) σ) ∧ (4 < sTrn (σ 1) (l1) (l2) → Q ((σ 1 ((34 + (9 * l1)) + 0)) + ((sFar (σ 1) (l1) (l2)) * (-1))) σ))) ∧ (sTrn (σ 1) (l1) (l2) < 4 → Q ((σ 1 ((34 + (9 * l1)) + 0)) + ((sFar (σ 1) (l1) (l2)) * 1)) σ))))) : Run G WM M_X12_columnOf 3 0 0 [vA G 0, vI l1, vI l2] σ Q := by
  refine Run.of (by decide +kernel) (by show (3 : Nat) ≤ 4; decide) ?_
  show Ex G WM M_X12_columnOf 3 0 0 0 [(0, vA G 0), (1, vI l1), (2, vI l2)] [] σ Q
  refine R_aload_n e_X12_columnOf_0.1 0 rfl ?_
  refine R_iload_n e_X12_columnOf_0.2.1 1 rfl ?_
  refine R_iload_n e_X12_columnOf_0.2.2.1 2 rfl ?_
  obtain ⟨q3, h⟩ := h
  refine R_callV (mc := 0) (ms := 0) (mc' := 0) (ms' := 0) (M' := M_X12_turned) (d' := 2) (as := [vI l1, vI l2]) (st := []) 12 2 e_X12_columnOf_0.2.2.2.1 (kCVof m_X12_turned l_X12_277) rfl (by decide) km_0 (by decide) (by decide) rfl rfl (by show (0 : Nat) ≤ 8; decide) ?_
  refine Run.mono (P_X12_turned q3) (fun r s e => ?_)
  obtain ⟨e1, e2⟩ := e
  refine R_eqs (st2 := [vI (sTrn (σ 1) (l1) (l2))]) (σ2 := σ) (by rw [e1]; rfl) e2 ?_
  refine R_istore_n (ls2 := [(3, vI (sTrn (σ 1) (l1) (l2))), (0, vA G 0), (1, vI l1), (2, vI l2)]) e_X12_columnOf_0.2.2.2.2.1 (by decide) rfl ?_
  refine R_aload_n e_X12_columnOf_0.2.2.2.2.2.1 1 rfl ?_
  refine R_iload_n e_X12_columnOf_0.2.2.2.2.2.2.1 2 rfl ?_
  refine R_iconst e_X12_columnOf_0.2.2.2.2.2.2.2.1 ?_
  refine R_callV (mc := 0) (ms := 0) (mc' := 0) (ms' := 0) (M' := M_X12_of) (d' := 1) (as := [vI l1, vI 0]) (st := []) 12 2 e_X12_columnOf_0.2.2.2.2.2.2.2.2.1 (kCVof m_X12_of l_X12_268) rfl (by decide) km_0 (by decide) (by decide) rfl rfl (by show (0 : Nat) ≤ 8; decide) ?_
  obtain ⟨q8, h⟩ := h
  refine S_X12_of ⟨q8, ?_⟩
  refine R_eqs (st2 := [vI (σ 1 ((34 + (9 * l1)) + 0))]) (σ2 := σ) rfl rfl ?_
  refine R_aload_n e_X12_columnOf_0.2.2.2.2.2.2.2.2.2 1 rfl ?_
  refine R_iload_n e_X12_columnOf_1.1 2 rfl ?_
  refine R_iload_n e_X12_columnOf_1.2.1 3 rfl ?_
  obtain ⟨q11, h⟩ := h
  refine R_callV (mc := 0) (ms := 0) (mc' := 0) (ms' := 0) (M' := M_X12_farFrom) (d' := 2) (as := [vI l1, vI l2]) (st := [vI (σ 1 ((34 + (9 * l1)) + 0))]) 12 2 e_X12_columnOf_1.2.2.1 (kCVof m_X12_farFrom l_X12_280) rfl (by decide) km_0 (by decide) (by decide) rfl rfl (by show (1 : Nat) ≤ 8; decide) ?_
  refine Run.mono (P_X12_farFrom q11) (fun r s e => ?_)
  obtain ⟨e1, e2⟩ := e
  refine R_eqs (st2 := [vI (sFar (σ 1) (l1) (l2)), vI (σ 1 ((34 + (9 * l1)) + 0))]) (σ2 := σ) (by rw [e1]; rfl) e2 ?_
  refine R_iload_n e_X12_columnOf_1.2.2.2.1 0 rfl ?_
  obtain ⟨q12, h⟩ := h
  refine R_if_le 32 e_X12_columnOf_1.2.2.2.2.1 (by decide) q12  (fun q => ?_) (fun q => ?_)
  · replace h := h.1 q
    refine R_iload_n e_X12_columnOf_2.1 0 rfl ?_
    refine R_iconst e_X12_columnOf_2.2.1 ?_
    refine R_icmp_le 41 e_X12_columnOf_2.2.2.1 (by decide) q12 (by decide) (fun q => ?_) (fun q => ?_)
    · replace h := h.1 q
      refine R_iconst e_X12_columnOf_2.2.2.2.2.2.1 ?_
      refine R_imul e_X12_columnOf_2.2.2.2.2.2.2.1 ?_
      refine R_iadd e_X12_columnOf_2.2.2.2.2.2.2.2.1 ?_
      exact R_ireturn e_X12_columnOf_2.2.2.2.2.2.2.2.2 rfl h
    · replace h := h.2 q
      refine R_iconst e_X12_columnOf_2.2.2.2.1 ?_
      refine R_goto 42 e_X12_columnOf_2.2.2.2.2.1 (by decide) ?_
      refine R_imul e_X12_columnOf_2.2.2.2.2.2.2.1 ?_
      refine R_iadd e_X12_columnOf_2.2.2.2.2.2.2.2.1 ?_
      exact R_ireturn e_X12_columnOf_2.2.2.2.2.2.2.2.2 rfl h
  · replace h := h.2 q
    refine R_iload_n e_X12_columnOf_1.2.2.2.2.2.1 0 rfl ?_
    refine R_iconst e_X12_columnOf_1.2.2.2.2.2.2.1 ?_
    refine R_icmp_ge 32 e_X12_columnOf_1.2.2.2.2.2.2.2.1 (by decide) q12 (by decide) (fun q => ?_) (fun q => ?_)
    · replace h := h.1 q
      refine R_iload_n e_X12_columnOf_2.1 0 rfl ?_
      refine R_iconst e_X12_columnOf_2.2.1 ?_
      refine R_icmp_le 41 e_X12_columnOf_2.2.2.1 (by decide) q12 (by decide) (fun q => ?_) (fun q => ?_)
      · replace h := h.1 q
        refine R_iconst e_X12_columnOf_2.2.2.2.2.2.1 ?_
        refine R_imul e_X12_columnOf_2.2.2.2.2.2.2.1 ?_
        refine R_iadd e_X12_columnOf_2.2.2.2.2.2.2.2.1 ?_
        exact R_ireturn e_X12_columnOf_2.2.2.2.2.2.2.2.2 rfl h
      · replace h := h.2 q
        refine R_iconst e_X12_columnOf_2.2.2.2.1 ?_
        refine R_goto 42 e_X12_columnOf_2.2.2.2.2.1 (by decide) ?_
        refine R_imul e_X12_columnOf_2.2.2.2.2.2.2.1 ?_
        refine R_iadd e_X12_columnOf_2.2.2.2.2.2.2.2.1 ?_
        exact R_ireturn e_X12_columnOf_2.2.2.2.2.2.2.2.2 rfl h
    · replace h := h.2 q
      refine R_iconst e_X12_columnOf_1.2.2.2.2.2.2.2.2.1 ?_
      refine R_goto 42 e_X12_columnOf_1.2.2.2.2.2.2.2.2.2 (by decide) ?_
      refine R_imul e_X12_columnOf_2.2.2.2.2.2.2.1 ?_
      refine R_iadd e_X12_columnOf_2.2.2.2.2.2.2.2.1 ?_
      exact R_ireturn e_X12_columnOf_2.2.2.2.2.2.2.2.2 rfl h
/-! KiteLandModel.rowOf(II)I -/
theorem e_X12_rowOf_0 : decode cX12_rowOf 0 = .ok (.aload_n 0, 1) ∧ decode cX12_rowOf 1 = .ok (.iload_n 1, 1) ∧ decode cX12_rowOf 2 = .ok (.iload_n 2, 1) ∧ decode cX12_rowOf 3 = .ok (.invokevirtual 277, 3) ∧ decode cX12_rowOf 6 = .ok (.istore_n 3, 1) ∧ decode cX12_rowOf 7 = .ok (.aload_n 0, 1) ∧ decode cX12_rowOf 8 = .ok (.iload_n 1, 1) ∧ decode cX12_rowOf 9 = .ok (.iconst 1, 1) ∧ decode cX12_rowOf 10 = .ok (.invokevirtual 268, 3) ∧ decode cX12_rowOf 13 = .ok (.aload_n 0, 1) := by decide +kernel
theorem e_X12_rowOf_1 : decode cX12_rowOf 14 = .ok (.iload_n 1, 1) ∧ decode cX12_rowOf 15 = .ok (.iload_n 2, 1) ∧ decode cX12_rowOf 16 = .ok (.invokevirtual 280, 3) ∧ decode cX12_rowOf 19 = .ok (.iload_n 3, 1) ∧ decode cX12_rowOf 20 = .ok (.iconst 2, 1) ∧ decode cX12_rowOf 21 = .ok (.if_icmp .le 13, 3) ∧ decode cX12_rowOf 24 = .ok (.iload_n 3, 1) ∧ decode cX12_rowOf 25 = .ok (.bipush 6, 2) ∧ decode cX12_rowOf 27 = .ok (.if_icmp .ge 7, 3) ∧ decode cX12_rowOf 30 = .ok (.iconst 1, 1) := by decide +kernel
theorem e_X12_rowOf_2 : decode cX12_rowOf 31 = .ok (.goto 19, 3) ∧ decode cX12_rowOf 34 = .ok (.iload_n 3, 1) ∧ decode cX12_rowOf 35 = .ok (.iconst 2, 1) ∧ decode cX12_rowOf 36 = .ok (.if_icmp .lt 9, 3) ∧ decode cX12_rowOf 39 = .ok (.iload_n 3, 1) ∧ decode cX12_rowOf 40 = .ok (.bipush 7, 2) ∧ decode cX12_rowOf 42 = .ok (.if_icmp .ne 7, 3) ∧ decode cX12_rowOf 45 = .ok (.iconst (-1), 1) ∧ decode cX12_rowOf 46 = .ok (.goto 4, 3) ∧ decode cX12_rowOf 49 = .ok (.iconst 0, 1) := by decide +kernel
theorem e_X12_rowOf_3 : decode cX12_rowOf 50 = .ok (.imul, 1) ∧ decode cX12_rowOf 51 = .ok (.iadd, 1) ∧ decode cX12_rowOf 52 = .ok (.ireturn, 1) := by decide +kernel
theorem S_X12_rowOf {G : Kg} {σ : Kmem} {Q : Int → Kmem → Prop} {l1 l2 : Int}  (h : (wf (σ 1) ∧ sKt (σ 1) (l1) ∧ sHr (l2)) ∧ (0 ≤ (34 + (9 * l1)) + 1 ∧ (34 + (9 * l1)) + 1 < 3598) ∧ (wf (σ 1) ∧ sKt (σ 1) (l1) ∧ sHr (l2)) ∧ (rI (sTrn (σ 1) (l1) (l2))) ∧ ((sTrn (σ 1) (l1) (l2) ≤ 2 → ((sTrn (σ 1) (l1) (l2) < 2 → Q ((σ 1 ((34 + (9 * l1)) + 1)) + ((sFar (σ 1) (l1) (l2)) * (-1))) σ) ∧ (2 ≤ sTrn (σ 1) (l1) (l2) → ((sTrn (σ 1) (l1) (l2) ≠ 7 → Q ((σ 1 ((34 + (9 * l1)) + 1)) + ((sFar (σ 1) (l1) (l2)) * 0)) σ) ∧ (sTrn (σ 1) (l1) (l2) = 7 → Q ((σ 1 ((34 + (9 * l1)) + 1)) + ((sFar (σ 1) (l1) (l2)) * (-1))) σ))))) ∧ (2 < sTrn (σ 1) (l1) (l2) → ((6 ≤ sTrn (σ 1) (l1) (l2) → ((sTrn (σ 1) (l1) (l2) < 2 → Q ((σ 1 ((34 + (9 * l1)) + 1)) + ((sFar (σ 1) (l1) (l2)) * (-1))) σ) ∧ (2 ≤ sTrn (σ 1) (l1) (l2) → ((sTrn (σ 1) (l1) (l2) ≠ 7 → Q ((σ 1 ((34 + (9 * l1)) + 1)) + ((sFar (σ 1) (l1) (l2)) * 0)) σ) ∧ (sTrn (σ 1) (l1) (l2) = 7 → Q ((σ 1 ((34 + (9 * l1)) + 1)) + ((sFar (σ 1) (l1) (l2)) * (-1))) σ))))) ∧ (sTrn (σ 1) (l1) (l2) < 6 → Q ((σ 1 ((34 + (9 * l1)) + 1)) + ((sFar (σ 1) (l1) (l2)) * 1)) σ))))) : Run G WM M_X12_rowOf 3 0 0 [vA G 0, vI l1, vI l2] σ Q := by
  refine Run.of (by decide +kernel) (by show (3 : Nat) ≤ 4; decide) ?_
  show Ex G WM M_X12_rowOf 3 0 0 0 [(0, vA G 0), (1, vI l1), (2, vI l2)] [] σ Q
  refine R_aload_n e_X12_rowOf_0.1 0 rfl ?_
  refine R_iload_n e_X12_rowOf_0.2.1 1 rfl ?_
  refine R_iload_n e_X12_rowOf_0.2.2.1 2 rfl ?_
  obtain ⟨q3, h⟩ := h
  refine R_callV (mc := 0) (ms := 0) (mc' := 0) (ms' := 0) (M' := M_X12_turned) (d' := 2) (as := [vI l1, vI l2]) (st := []) 12 2 e_X12_rowOf_0.2.2.2.1 (kCVof m_X12_turned l_X12_277) rfl (by decide) km_0 (by decide) (by decide) rfl rfl (by show (0 : Nat) ≤ 8; decide) ?_
  refine Run.mono (P_X12_turned q3) (fun r s e => ?_)
  obtain ⟨e1, e2⟩ := e
  refine R_eqs (st2 := [vI (sTrn (σ 1) (l1) (l2))]) (σ2 := σ) (by rw [e1]; rfl) e2 ?_
  refine R_istore_n (ls2 := [(3, vI (sTrn (σ 1) (l1) (l2))), (0, vA G 0), (1, vI l1), (2, vI l2)]) e_X12_rowOf_0.2.2.2.2.1 (by decide) rfl ?_
  refine R_aload_n e_X12_rowOf_0.2.2.2.2.2.1 1 rfl ?_
  refine R_iload_n e_X12_rowOf_0.2.2.2.2.2.2.1 2 rfl ?_
  refine R_iconst e_X12_rowOf_0.2.2.2.2.2.2.2.1 ?_
  refine R_callV (mc := 0) (ms := 0) (mc' := 0) (ms' := 0) (M' := M_X12_of) (d' := 1) (as := [vI l1, vI 1]) (st := []) 12 2 e_X12_rowOf_0.2.2.2.2.2.2.2.2.1 (kCVof m_X12_of l_X12_268) rfl (by decide) km_0 (by decide) (by decide) rfl rfl (by show (0 : Nat) ≤ 8; decide) ?_
  obtain ⟨q8, h⟩ := h
  refine S_X12_of ⟨q8, ?_⟩
  refine R_eqs (st2 := [vI (σ 1 ((34 + (9 * l1)) + 1))]) (σ2 := σ) rfl rfl ?_
  refine R_aload_n e_X12_rowOf_0.2.2.2.2.2.2.2.2.2 1 rfl ?_
  refine R_iload_n e_X12_rowOf_1.1 2 rfl ?_
  refine R_iload_n e_X12_rowOf_1.2.1 3 rfl ?_
  obtain ⟨q11, h⟩ := h
  refine R_callV (mc := 0) (ms := 0) (mc' := 0) (ms' := 0) (M' := M_X12_farFrom) (d' := 2) (as := [vI l1, vI l2]) (st := [vI (σ 1 ((34 + (9 * l1)) + 1))]) 12 2 e_X12_rowOf_1.2.2.1 (kCVof m_X12_farFrom l_X12_280) rfl (by decide) km_0 (by decide) (by decide) rfl rfl (by show (1 : Nat) ≤ 8; decide) ?_
  refine Run.mono (P_X12_farFrom q11) (fun r s e => ?_)
  obtain ⟨e1, e2⟩ := e
  refine R_eqs (st2 := [vI (sFar (σ 1) (l1) (l2)), vI (σ 1 ((34 + (9 * l1)) + 1))]) (σ2 := σ) (by rw [e1]; rfl) e2 ?_
  refine R_iload_n e_X12_rowOf_1.2.2.2.1 0 rfl ?_
  refine R_iconst e_X12_rowOf_1.2.2.2.2.1 ?_
  obtain ⟨q12, h⟩ := h
  refine R_icmp_le 34 e_X12_rowOf_1.2.2.2.2.2.1 (by decide) q12 (by decide) (fun q => ?_) (fun q => ?_)
  · replace h := h.1 q
    refine R_iload_n e_X12_rowOf_2.2.1 0 rfl ?_
    refine R_iconst e_X12_rowOf_2.2.2.1 ?_
    refine R_icmp_lt 45 e_X12_rowOf_2.2.2.2.1 (by decide) q12 (by decide) (fun q => ?_) (fun q => ?_)
    · replace h := h.1 q
      refine R_iconst e_X12_rowOf_2.2.2.2.2.2.2.2.1 ?_
      refine R_goto 50 e_X12_rowOf_2.2.2.2.2.2.2.2.2.1 (by decide) ?_
      refine R_imul e_X12_rowOf_3.1 ?_
      refine R_iadd e_X12_rowOf_3.2.1 ?_
      exact R_ireturn e_X12_rowOf_3.2.2 rfl h
    · replace h := h.2 q
      refine R_iload_n e_X12_rowOf_2.2.2.2.2.1 0 rfl ?_
      refine R_bipush e_X12_rowOf_2.2.2.2.2.2.1 (by decide) ?_
      refine R_icmp_ne 49 e_X12_rowOf_2.2.2.2.2.2.2.1 (by decide) q12 (by decide) (fun q => ?_) (fun q => ?_)
      · replace h := h.1 q
        refine R_iconst e_X12_rowOf_2.2.2.2.2.2.2.2.2.2 ?_
        refine R_imul e_X12_rowOf_3.1 ?_
        refine R_iadd e_X12_rowOf_3.2.1 ?_
        exact R_ireturn e_X12_rowOf_3.2.2 rfl h
      · replace h := h.2 q
        refine R_iconst e_X12_rowOf_2.2.2.2.2.2.2.2.1 ?_
        refine R_goto 50 e_X12_rowOf_2.2.2.2.2.2.2.2.2.1 (by decide) ?_
        refine R_imul e_X12_rowOf_3.1 ?_
        refine R_iadd e_X12_rowOf_3.2.1 ?_
        exact R_ireturn e_X12_rowOf_3.2.2 rfl h
  · replace h := h.2 q
    refine R_iload_n e_X12_rowOf_1.2.2.2.2.2.2.1 0 rfl ?_
    refine R_bipush e_X12_rowOf_1.2.2.2.2.2.2.2.1 (by decide) ?_
    refine R_icmp_ge 34 e_X12_rowOf_1.2.2.2.2.2.2.2.2.1 (by decide) q12 (by decide) (fun q => ?_) (fun q => ?_)
    · replace h := h.1 q
      refine R_iload_n e_X12_rowOf_2.2.1 0 rfl ?_
      refine R_iconst e_X12_rowOf_2.2.2.1 ?_
      refine R_icmp_lt 45 e_X12_rowOf_2.2.2.2.1 (by decide) q12 (by decide) (fun q => ?_) (fun q => ?_)
      · replace h := h.1 q
        refine R_iconst e_X12_rowOf_2.2.2.2.2.2.2.2.1 ?_
        refine R_goto 50 e_X12_rowOf_2.2.2.2.2.2.2.2.2.1 (by decide) ?_
        refine R_imul e_X12_rowOf_3.1 ?_
        refine R_iadd e_X12_rowOf_3.2.1 ?_
        exact R_ireturn e_X12_rowOf_3.2.2 rfl h
      · replace h := h.2 q
        refine R_iload_n e_X12_rowOf_2.2.2.2.2.1 0 rfl ?_
        refine R_bipush e_X12_rowOf_2.2.2.2.2.2.1 (by decide) ?_
        refine R_icmp_ne 49 e_X12_rowOf_2.2.2.2.2.2.2.1 (by decide) q12 (by decide) (fun q => ?_) (fun q => ?_)
        · replace h := h.1 q
          refine R_iconst e_X12_rowOf_2.2.2.2.2.2.2.2.2.2 ?_
          refine R_imul e_X12_rowOf_3.1 ?_
          refine R_iadd e_X12_rowOf_3.2.1 ?_
          exact R_ireturn e_X12_rowOf_3.2.2 rfl h
        · replace h := h.2 q
          refine R_iconst e_X12_rowOf_2.2.2.2.2.2.2.2.1 ?_
          refine R_goto 50 e_X12_rowOf_2.2.2.2.2.2.2.2.2.1 (by decide) ?_
          refine R_imul e_X12_rowOf_3.1 ?_
          refine R_iadd e_X12_rowOf_3.2.1 ?_
          exact R_ireturn e_X12_rowOf_3.2.2 rfl h
    · replace h := h.2 q
      refine R_iconst e_X12_rowOf_1.2.2.2.2.2.2.2.2.2 ?_
      refine R_goto 50 e_X12_rowOf_2.1 (by decide) ?_
      refine R_imul e_X12_rowOf_3.1 ?_
      refine R_iadd e_X12_rowOf_3.2.1 ?_
      exact R_ireturn e_X12_rowOf_3.2.2 rfl h
/-! KiteLandModel.areTwo(II)Z -/
theorem e_X12_areTwo_0 : decode cX12_areTwo 0 = .ok (.aload_n 0, 1) ∧ decode cX12_areTwo 1 = .ok (.iload_n 1, 1) ∧ decode cX12_areTwo 2 = .ok (.invokevirtual 343, 3) ∧ decode cX12_areTwo 5 = .ok (.ifCond .eq 20, 3) ∧ decode cX12_areTwo 8 = .ok (.aload_n 0, 1) ∧ decode cX12_areTwo 9 = .ok (.iload_n 2, 1) ∧ decode cX12_areTwo 10 = .ok (.invokevirtual 343, 3) ∧ decode cX12_areTwo 13 = .ok (.ifCond .eq 12, 3) ∧ decode cX12_areTwo 16 = .ok (.iload_n 1, 1) ∧ decode cX12_areTwo 17 = .ok (.iload_n 2, 1) := by decide +kernel
theorem e_X12_areTwo_1 : decode cX12_areTwo 18 = .ok (.if_icmp .eq 7, 3) ∧ decode cX12_areTwo 21 = .ok (.iconst 1, 1) ∧ decode cX12_areTwo 22 = .ok (.goto 4, 3) ∧ decode cX12_areTwo 25 = .ok (.iconst 0, 1) ∧ decode cX12_areTwo 26 = .ok (.ireturn, 1) := by decide +kernel
theorem S_X12_areTwo {G : Kg} {σ : Kmem} {Q : Int → Kmem → Prop} {l1 l2 : Int}  (h : (rI l1 ∧ wf (σ 1)) ∧ ((¬ (sKt (σ 1) (l1)) → Q 0 σ) ∧ ((sKt (σ 1) (l1)) → (rI l2 ∧ wf (σ 1)) ∧ ((¬ (sKt (σ 1) (l2)) → Q 0 σ) ∧ ((sKt (σ 1) (l2)) → (rI l1) ∧ (rI l2) ∧ ((l1 = l2 → Q 0 σ) ∧ (l1 ≠ l2 → Q 1 σ))))))) : Run G WM M_X12_areTwo 1 0 0 [vA G 0, vI l1, vI l2] σ Q := by
  refine Run.of (by decide +kernel) (by show (3 : Nat) ≤ 3; decide) ?_
  show Ex G WM M_X12_areTwo 1 0 0 0 [(0, vA G 0), (1, vI l1), (2, vI l2)] [] σ Q
  refine R_aload_n e_X12_areTwo_0.1 0 rfl ?_
  refine R_iload_n e_X12_areTwo_0.2.1 1 rfl ?_
  obtain ⟨q3, h⟩ := h
  refine R_callV (mc := 0) (ms := 0) (mc' := 0) (ms' := 0) (M' := M_X12_isKite) (d' := 0) (as := [vI l1]) (st := []) 12 1 e_X12_areTwo_0.2.2.1 (kCVof m_X12_isKite l_X12_343) rfl (by decide) km_0 (by decide) (by decide) rfl rfl (by show (0 : Nat) ≤ 8; decide) ?_
  refine Run.mono (P_X12_isKite q3) (fun r s e => ?_)
  obtain ⟨e1, e2⟩ := e
  refine R_eqs (st2 := [vI (kb (sKt (σ 1) (l1)))]) (σ2 := σ) (by rw [e1]; rfl) e2 ?_
  refine R_if_eq 25 e_X12_areTwo_0.2.2.2.1 (by decide) (kb_r _) (fun q => ?_) (fun q => ?_)
  · replace h := h.1 (kb_f q)
    refine R_iconst e_X12_areTwo_1.2.2.2.1 ?_
    exact R_zreturn e_X12_areTwo_1.2.2.2.2 rfl (Or.inl rfl) h
  · replace h := h.2 (kb_t q)
    refine R_aload_n e_X12_areTwo_0.2.2.2.2.1 0 rfl ?_
    refine R_iload_n e_X12_areTwo_0.2.2.2.2.2.1 2 rfl ?_
    obtain ⟨q6, h⟩ := h
    refine R_callV (mc := 0) (ms := 0) (mc' := 0) (ms' := 0) (M' := M_X12_isKite) (d' := 0) (as := [vI l2]) (st := []) 12 1 e_X12_areTwo_0.2.2.2.2.2.2.1 (kCVof m_X12_isKite l_X12_343) rfl (by decide) km_0 (by decide) (by decide) rfl rfl (by show (0 : Nat) ≤ 8; decide) ?_
    refine Run.mono (P_X12_isKite q6) (fun r s e => ?_)
    obtain ⟨e1, e2⟩ := e
    refine R_eqs (st2 := [vI (kb (sKt (σ 1) (l2)))]) (σ2 := σ) (by rw [e1]; rfl) e2 ?_
    refine R_if_eq 25 e_X12_areTwo_0.2.2.2.2.2.2.2.1 (by decide) (kb_r _) (fun q => ?_) (fun q => ?_)
    · replace h := h.1 (kb_f q)
      refine R_iconst e_X12_areTwo_1.2.2.2.1 ?_
      exact R_zreturn e_X12_areTwo_1.2.2.2.2 rfl (Or.inl rfl) h
    · replace h := h.2 (kb_t q)
      refine R_iload_n e_X12_areTwo_0.2.2.2.2.2.2.2.2.1 1 rfl ?_
      refine R_iload_n e_X12_areTwo_0.2.2.2.2.2.2.2.2.2 2 rfl ?_
      obtain ⟨q7, h⟩ := h
      obtain ⟨q8, h⟩ := h
      refine R_icmp_eq 25 e_X12_areTwo_1.1 (by decide) q7 q8 (fun q => ?_) (fun q => ?_)
      · replace h := h.1 q
        refine R_iconst e_X12_areTwo_1.2.2.2.1 ?_
        exact R_zreturn e_X12_areTwo_1.2.2.2.2 rfl (Or.inl rfl) h
      · replace h := h.2 q
        refine R_iconst e_X12_areTwo_1.2.1 ?_
        refine R_goto 26 e_X12_areTwo_1.2.2.1 (by decide) ?_
        exact R_zreturn e_X12_areTwo_1.2.2.2.2 rfl (Or.inr rfl) h
