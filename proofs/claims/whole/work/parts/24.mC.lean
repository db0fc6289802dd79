/-! KiteLandModel.doesShade(IIII)Z -/
theorem e_X12_doesShade_0 : decode cX12_doesShade 0 = .ok (.iload 4, 2) ∧ decode cX12_doesShade 2 = .ok (.aload_n 0, 1) ∧ decode cX12_doesShade 3 = .ok (.getfield 7, 3) ∧ decode cX12_doesShade 6 = .ok (.iconst 5, 1) ∧ decode cX12_doesShade 7 = .ok (.iaload, 1) ∧ decode cX12_doesShade 8 = .ok (.if_icmp .ne 18, 3) ∧ decode cX12_doesShade 11 = .ok (.iconst 0, 1) ∧ decode cX12_doesShade 12 = .ok (.aload_n 0, 1) ∧ decode cX12_doesShade 13 = .ok (.iload_n 1, 1) ∧ decode cX12_doesShade 14 = .ok (.iconst 2, 1) := by decide +kernel
theorem e_X12_doesShade_1 : decode cX12_doesShade 15 = .ok (.invokevirtual 268, 3) ∧ decode cX12_doesShade 18 = .ok (.iconst 1, 1) ∧ decode cX12_doesShade 19 = .ok (.isub, 1) ∧ decode cX12_doesShade 20 = .ok (.invokestatic 283, 3) ∧ decode cX12_doesShade 23 = .ok (.goto 9, 3) ∧ decode cX12_doesShade 26 = .ok (.aload_n 0, 1) ∧ decode cX12_doesShade 27 = .ok (.iload_n 1, 1) ∧ decode cX12_doesShade 28 = .ok (.iconst 2, 1) ∧ decode cX12_doesShade 29 = .ok (.invokevirtual 268, 3) ∧ decode cX12_doesShade 32 = .ok (.istore 5, 2) := by decide +kernel
theorem e_X12_doesShade_2 : decode cX12_doesShade 34 = .ok (.aload_n 0, 1) ∧ decode cX12_doesShade 35 = .ok (.iload_n 1, 1) ∧ decode cX12_doesShade 36 = .ok (.iload 4, 2) ∧ decode cX12_doesShade 38 = .ok (.invokevirtual 274, 3) ∧ decode cX12_doesShade 41 = .ok (.ifCond .eq 41, 3) ∧ decode cX12_doesShade 44 = .ok (.aload_n 0, 1) ∧ decode cX12_doesShade 45 = .ok (.iload_n 1, 1) ∧ decode cX12_doesShade 46 = .ok (.iload 4, 2) ∧ decode cX12_doesShade 48 = .ok (.invokevirtual 286, 3) ∧ decode cX12_doesShade 51 = .ok (.iload_n 2, 1) := by decide +kernel
theorem e_X12_doesShade_3 : decode cX12_doesShade 52 = .ok (.isub, 1) ∧ decode cX12_doesShade 53 = .ok (.invokestatic 289, 3) ∧ decode cX12_doesShade 56 = .ok (.iload 5, 2) ∧ decode cX12_doesShade 58 = .ok (.if_icmp .gt 24, 3) ∧ decode cX12_doesShade 61 = .ok (.aload_n 0, 1) ∧ decode cX12_doesShade 62 = .ok (.iload_n 1, 1) ∧ decode cX12_doesShade 63 = .ok (.iload 4, 2) ∧ decode cX12_doesShade 65 = .ok (.invokevirtual 292, 3) ∧ decode cX12_doesShade 68 = .ok (.iload_n 3, 1) ∧ decode cX12_doesShade 69 = .ok (.isub, 1) := by decide +kernel
theorem e_X12_doesShade_4 : decode cX12_doesShade 70 = .ok (.invokestatic 289, 3) ∧ decode cX12_doesShade 73 = .ok (.iload 5, 2) ∧ decode cX12_doesShade 75 = .ok (.if_icmp .gt 7, 3) ∧ decode cX12_doesShade 78 = .ok (.iconst 1, 1) ∧ decode cX12_doesShade 79 = .ok (.goto 4, 3) ∧ decode cX12_doesShade 82 = .ok (.iconst 0, 1) ∧ decode cX12_doesShade 83 = .ok (.ireturn, 1) := by decide +kernel
abbrev E_X12_doesShade_32 (G : Kg) (l1 l2 l3 l4 p0 : Int) (σ : Kmem) (Q : Int → Kmem → Prop) : Prop := Ex G WM M_X12_doesShade 4 0 0 32 [(0, vA G 0), (1, vI l1), (2, vI l2), (3, vI l3), (4, vI l4)] [vI p0] σ Q
theorem S_X12_doesShade {G : Kg} {σ : Kmem} {Q : Int → Kmem → Prop} {l1 l2 l3 l4 : Int}  (h : (rI l4) ∧ (rI (σ 1 5)) ∧ ((l4 ≠ σ 1 5 → (0 ≤ (34 + (9 * l1)) + 2 ∧ (34 + (9 * l1)) + 2 < 3598) ∧ E_X12_doesShade_32 G l1 l2 l3 l4 (σ 1 ((34 + (9 * l1)) + 2)) σ Q) ∧ (l4 = σ 1 5 → (0 ≤ (34 + (9 * l1)) + 2 ∧ (34 + (9 * l1)) + 2 < 3598) ∧ (rI (0) ∧ rI ((σ 1 ((34 + (9 * l1)) + 2)) - 1)) ∧ E_X12_doesShade_32 G l1 l2 l3 l4 (max (0) ((σ 1 ((34 + (9 * l1)) + 2)) - 1)) σ Q))) : Run G WM M_X12_doesShade 4 0 0 [vA G 0, vI l1, vI l2, vI l3, vI l4] σ Q := by
  refine Run.of (by decide +kernel) (by show (5 : Nat) ≤ 6; decide) ?_
  show Ex G WM M_X12_doesShade 4 0 0 0 [(0, vA G 0), (1, vI l1), (2, vI l2), (3, vI l3), (4, vI l4)] [] σ Q
  refine R_iload e_X12_doesShade_0.1 4 rfl ?_
  refine R_aload_n e_X12_doesShade_0.2.1 0 rfl ?_
  refine R_getA 12 0 1 e_X12_doesShade_0.2.2.1 f_X12_7 km_0 (fun _ _ => rfl) rm_0_0 (by decide) ?_
  refine R_iconst e_X12_doesShade_0.2.2.2.1 ?_
  refine R_iald 3598 e_X12_doesShade_0.2.2.2.2.1 kma_1 (by decide) ?_
  obtain ⟨q1, h⟩ := h
  obtain ⟨q2, h⟩ := h
  refine R_icmp_ne 26 e_X12_doesShade_0.2.2.2.2.2.1 (by decide) q1 q2 (fun q => ?_) (fun q => ?_)
  · replace h := h.1 q
    refine R_aload_n e_X12_doesShade_1.2.2.2.2.2.1 0 rfl ?_
    refine R_iload_n e_X12_doesShade_1.2.2.2.2.2.2.1 1 rfl ?_
    refine R_iconst e_X12_doesShade_1.2.2.2.2.2.2.2.1 ?_
    refine R_callV (mc := 0) (ms := 0) (mc' := 0) (ms' := 0) (M' := M_X12_of) (d' := 1) (as := [vI l1, vI 2]) (st := []) 12 2 e_X12_doesShade_1.2.2.2.2.2.2.2.2.1 (kCVof m_X12_of l_X12_268) rfl (by decide) km_0 (by decide) (by decide) rfl rfl (by show (0 : Nat) ≤ 8; decide) ?_
    obtain ⟨q7, h⟩ := h
    refine S_X12_of ⟨q7, ?_⟩
    refine R_eqs (st2 := [vI (σ 1 ((34 + (9 * l1)) + 2))]) (σ2 := σ) rfl rfl ?_
    refine R_ls (ls2 := [(0, vA G 0), (1, vI l1), (2, vI l2), (3, vI l3), (4, vI l4)]) [0, 1, 2, 3, 4] rfl ?_
    exact h
  · replace h := h.2 q
    refine R_iconst e_X12_doesShade_0.2.2.2.2.2.2.1 ?_
    refine R_aload_n e_X12_doesShade_0.2.2.2.2.2.2.2.1 0 rfl ?_
    refine R_iload_n e_X12_doesShade_0.2.2.2.2.2.2.2.2.1 1 rfl ?_
    refine R_iconst e_X12_doesShade_0.2.2.2.2.2.2.2.2.2 ?_
    refine R_callV (mc := 0) (ms := 0) (mc' := 0) (ms' := 0) (M' := M_X12_of) (d' := 1) (as := [vI l1, vI 2]) (st := [vI 0]) 12 2 e_X12_doesShade_1.1 (kCVof m_X12_of l_X12_268) rfl (by decide) km_0 (by decide) (by decide) rfl rfl (by show (1 : Nat) ≤ 8; decide) ?_
    obtain ⟨q12, h⟩ := h
    refine S_X12_of ⟨q12, ?_⟩
    refine R_eqs (st2 := [vI (σ 1 ((34 + (9 * l1)) + 2)), vI 0]) (σ2 := σ) rfl rfl ?_
    refine R_iconst e_X12_doesShade_1.2.1 ?_
    refine R_isub e_X12_doesShade_1.2.2.1 ?_
    obtain ⟨q15, h⟩ := h
    refine R_callS (mc := 0) (ms := 0) (mc' := 0) (ms' := 0) (M' := M_J9_max_7cf53) (d' := 0) (as := [vI 0, vI ((σ 1 ((34 + (9 * l1)) + 2)) - 1)]) (st := []) 2 e_X12_doesShade_1.2.2.2.1 (kCSof m_J9_max_7cf53 l_X12_283) (by decide) (by decide) rfl rfl (by show (0 : Nat) ≤ 8; decide) ?_
    refine Run.mono (P_J9_max_7cf53 q15) (fun r s e => ?_)
    obtain ⟨e1, e2⟩ := e
    refine R_eqs (st2 := [vI (max (0) ((σ 1 ((34 + (9 * l1)) + 2)) - 1))]) (σ2 := σ) (by rw [e1]; rfl) e2 ?_
    refine R_goto 32 e_X12_doesShade_1.2.2.2.2.1 (by decide) ?_
    refine R_ls (ls2 := [(0, vA G 0), (1, vI l1), (2, vI l2), (3, vI l3), (4, vI l4)]) [0, 1, 2, 3, 4] rfl ?_
    exact h
theorem S_X12_doesShade_32 {G : Kg} {σ : Kmem} {Q : Int → Kmem → Prop} {l1 l2 l3 l4 p0 : Int}  (h : (wf (σ 1) ∧ sKt (σ 1) (l1) ∧ sHr (l4)) ∧ ((¬ (sBorne (σ 1) (l1) (l4)) → Q 0 σ) ∧ ((sBorne (σ 1) (l1) (l4)) → (wf (σ 1) ∧ sKt (σ 1) (l1) ∧ sHr (l4)) ∧ (rI ((sCol (σ 1) (l1) (l4)) - l2) ∧ (sCol (σ 1) (l1) (l4)) - l2 ≠ -2147483648) ∧ (rI (kabs ((sCol (σ 1) (l1) (l4)) - l2))) ∧ (rI p0) ∧ ((p0 < kabs ((sCol (σ 1) (l1) (l4)) - l2) → Q 0 σ) ∧ (kabs ((sCol (σ 1) (l1) (l4)) - l2) ≤ p0 → (wf (σ 1) ∧ sKt (σ 1) (l1) ∧ sHr (l4)) ∧ (rI ((sRow (σ 1) (l1) (l4)) - l3) ∧ (sRow (σ 1) (l1) (l4)) - l3 ≠ -2147483648) ∧ (rI (kabs ((sRow (σ 1) (l1) (l4)) - l3))) ∧ ((p0 < kabs ((sRow (σ 1) (l1) (l4)) - l3) → Q 0 σ) ∧ (kabs ((sRow (σ 1) (l1) (l4)) - l3) ≤ p0 → Q 1 σ))))))) : E_X12_doesShade_32 G l1 l2 l3 l4 p0 σ Q := by
  refine R_istore (ls2 := [(5, vI p0), (0, vA G 0), (1, vI l1), (2, vI l2), (3, vI l3), (4, vI l4)]) e_X12_doesShade_1.2.2.2.2.2.2.2.2.2 (by decide) rfl ?_
  refine R_aload_n e_X12_doesShade_2.1 1 rfl ?_
  refine R_iload_n e_X12_doesShade_2.2.1 2 rfl ?_
  refine R_iload e_X12_doesShade_2.2.2.1 5 rfl ?_
  obtain ⟨q18, h⟩ := h
  refine R_callV (mc := 0) (ms := 0) (mc' := 0) (ms' := 0) (M' := M_X12_isBorne) (d' := 2) (as := [vI l1, vI l4]) (st := []) 12 2 e_X12_doesShade_2.2.2.2.1 (kCVof m_X12_isBorne l_X12_274) rfl (by decide) km_0 (by decide) (by decide) rfl rfl (by show (0 : Nat) ≤ 8; decide) ?_
  refine Run.mono (P_X12_isBorne q18) (fun r s e => ?_)
  obtain ⟨e1, e2⟩ := e
  refine R_eqs (st2 := [vI (kb (sBorne (σ 1) (l1) (l4)))]) (σ2 := σ) (by rw [e1]; rfl) e2 ?_
  refine R_if_eq 82 e_X12_doesShade_2.2.2.2.2.1 (by decide) (kb_r _) (fun q => ?_) (fun q => ?_)
  · replace h := h.1 (kb_f q)
    refine R_iconst e_X12_doesShade_4.2.2.2.2.2.1 ?_
    exact R_zreturn e_X12_doesShade_4.2.2.2.2.2.2 rfl (Or.inl rfl) h
  · replace h := h.2 (kb_t q)
    refine R_aload_n e_X12_doesShade_2.2.2.2.2.2.1 1 rfl ?_
    refine R_iload_n e_X12_doesShade_2.2.2.2.2.2.2.1 2 rfl ?_
    refine R_iload e_X12_doesShade_2.2.2.2.2.2.2.2.1 5 rfl ?_
    obtain ⟨q21, h⟩ := h
    refine R_callV (mc := 0) (ms := 0) (mc' := 0) (ms' := 0) (M' := M_X12_columnOf) (d' := 3) (as := [vI l1, vI l4]) (st := []) 12 2 e_X12_doesShade_2.2.2.2.2.2.2.2.2.1 (kCVof m_X12_columnOf l_X12_286) rfl (by decide) km_0 (by decide) (by decide) rfl rfl (by show (0 : Nat) ≤ 8; decide) ?_
    refine Run.mono (P_X12_columnOf q21) (fun r s e => ?_)
    obtain ⟨e1, e2⟩ := e
    refine R_eqs (st2 := [vI (sCol (σ 1) (l1) (l4))]) (σ2 := σ) (by rw [e1]; rfl) e2 ?_
    refine R_iload_n e_X12_doesShade_2.2.2.2.2.2.2.2.2.2 3 rfl ?_
    refine R_isub e_X12_doesShade_3.1 ?_
    obtain ⟨q24, h⟩ := h
    refine R_callS (mc := 0) (ms := 0) (mc' := 0) (ms' := 0) (M' := M_J9_abs_0f7a4) (d' := 0) (as := [vI ((sCol (σ 1) (l1) (l4)) - l2)]) (st := []) 1 e_X12_doesShade_3.2.1 (kCSof m_J9_abs_0f7a4 l_X12_289) (by decide) (by decide) rfl rfl (by show (0 : Nat) ≤ 8; decide) ?_
    refine Run.mono (P_J9_abs_0f7a4 q24) (fun r s e => ?_)
    obtain ⟨e1, e2⟩ := e
    refine R_eqs (st2 := [vI (kabs ((sCol (σ 1) (l1) (l4)) - l2))]) (σ2 := σ) (by rw [e1]; rfl) e2 ?_
    refine R_iload e_X12_doesShade_3.2.2.1 0 rfl ?_
    obtain ⟨q25, h⟩ := h
    obtain ⟨q26, h⟩ := h
    refine R_icmp_gt 82 e_X12_doesShade_3.2.2.2.1 (by decide) q25 q26 (fun q => ?_) (fun q => ?_)
    · replace h := h.1 q
      refine R_iconst e_X12_doesShade_4.2.2.2.2.2.1 ?_
      exact R_zreturn e_X12_doesShade_4.2.2.2.2.2.2 rfl (Or.inl rfl) h
    · replace h := h.2 q
      refine R_aload_n e_X12_doesShade_3.2.2.2.2.1 1 rfl ?_
      refine R_iload_n e_X12_doesShade_3.2.2.2.2.2.1 2 rfl ?_
      refine R_iload e_X12_doesShade_3.2.2.2.2.2.2.1 5 rfl ?_
      obtain ⟨q29, h⟩ := h
      refine R_callV (mc := 0) (ms := 0) (mc' := 0) (ms' := 0) (M' := M_X12_rowOf) (d' := 3) (as := [vI l1, vI l4]) (st := []) 12 2 e_X12_doesShade_3.2.2.2.2.2.2.2.1 (kCVof m_X12_rowOf l_X12_292) rfl (by decide) km_0 (by decide) (by decide) rfl rfl (by show (0 : Nat) ≤ 8; decide) ?_
      refine Run.mono (P_X12_rowOf q29) (fun r s e => ?_)
      obtain ⟨e1, e2⟩ := e
      refine R_eqs (st2 := [vI (sRow (σ 1) (l1) (l4))]) (σ2 := σ) (by rw [e1]; rfl) e2 ?_
      refine R_iload_n e_X12_doesShade_3.2.2.2.2.2.2.2.2.1 4 rfl ?_
      refine R_isub e_X12_doesShade_3.2.2.2.2.2.2.2.2.2 ?_
      obtain ⟨q32, h⟩ := h
      refine R_callS (mc := 0) (ms := 0) (mc' := 0) (ms' := 0) (M' := M_J9_abs_0f7a4) (d' := 0) (as := [vI ((sRow (σ 1) (l1) (l4)) - l3)]) (st := []) 1 e_X12_doesShade_4.1 (kCSof m_J9_abs_0f7a4 l_X12_289) (by decide) (by decide) rfl rfl (by show (0 : Nat) ≤ 8; decide) ?_
      refine Run.mono (P_J9_abs_0f7a4 q32) (fun r s e => ?_)
      obtain ⟨e1, e2⟩ := e
      refine R_eqs (st2 := [vI (kabs ((sRow (σ 1) (l1) (l4)) - l3))]) (σ2 := σ) (by rw [e1]; rfl) e2 ?_
      refine R_iload e_X12_doesShade_4.2.1 0 rfl ?_
      obtain ⟨q33, h⟩ := h
      refine R_icmp_gt 82 e_X12_doesShade_4.2.2.1 (by decide) q33 q26 (fun q => ?_) (fun q => ?_)
      · replace h := h.1 q
        refine R_iconst e_X12_doesShade_4.2.2.2.2.2.1 ?_
        exact R_zreturn e_X12_doesShade_4.2.2.2.2.2.2 rfl (Or.inl rfl) h
      · replace h := h.2 q
        refine R_iconst e_X12_doesShade_4.2.2.2.1 ?_
        refine R_goto 83 e_X12_doesShade_4.2.2.2.2.1 (by decide) ?_
        exact R_zreturn e_X12_doesShade_4.2.2.2.2.2.2 rfl (Or.inr rfl) h
