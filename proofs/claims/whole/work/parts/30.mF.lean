/-! KiteLandModel.earns(II)V -/
theorem e_X12_earns_0 : decode cX12_earns 0 = .ok (.aload_n 0, 1) ∧ decode cX12_earns 1 = .ok (.getfield 7, 3) ∧ decode cX12_earns 4 = .ok (.iload_n 1, 1) ∧ decode cX12_earns 5 = .ok (.invokestatic 265, 3) ∧ decode cX12_earns 8 = .ok (.iconst 5, 1) ∧ decode cX12_earns 9 = .ok (.iadd, 1) ∧ decode cX12_earns 10 = .ok (.sipush 9999, 3) ∧ decode cX12_earns 13 = .ok (.aload_n 0, 1) ∧ decode cX12_earns 14 = .ok (.iload_n 1, 1) ∧ decode cX12_earns 15 = .ok (.iconst 5, 1) := by decide +kernel
theorem e_X12_earns_1 : decode cX12_earns 16 = .ok (.invokevirtual 268, 3) ∧ decode cX12_earns 19 = .ok (.iload_n 2, 1) ∧ decode cX12_earns 20 = .ok (.iadd, 1) ∧ decode cX12_earns 21 = .ok (.invokestatic 148, 3) ∧ decode cX12_earns 24 = .ok (.iastore, 1) ∧ decode cX12_earns 25 = .ok (.return_, 1) := by decide +kernel
theorem S_X12_earns {G : Kg} {σ : Kmem} {Q : Int → Kmem → Prop} {l1 l2 : Int}  (h : (0 ≤ (34 + (9 * l1)) + 5 ∧ (34 + (9 * l1)) + 5 < 3598) ∧ (rI (9999) ∧ rI ((σ 1 ((34 + (9 * l1)) + 5)) + l2)) ∧ (0 ≤ (34 + (9 * l1)) + 5 ∧ (34 + (9 * l1)) + 5 < 3598) ∧ Q 0 (kup σ 1 ((34 + (9 * l1)) + 5) (min (9999) ((σ 1 ((34 + (9 * l1)) + 5)) + l2)))) : Run G WM M_X12_earns 2 0 0 [vA G 0, vI l1, vI l2] σ Q := by
  refine Run.of (by decide +kernel) (by show (3 : Nat) ≤ 3; decide) ?_
  show Ex G WM M_X12_earns 2 0 0 0 [(0, vA G 0), (1, vI l1), (2, vI l2)] [] σ Q
  refine R_aload_n e_X12_earns_0.1 0 rfl ?_
  refine R_getA 12 0 1 e_X12_earns_0.2.1 f_X12_7 km_0 (fun _ _ => rfl) rm_0_0 (by decide) ?_
  refine R_iload_n e_X12_earns_0.2.2.1 1 rfl ?_
  refine R_callS (mc := 0) (ms := 0) (mc' := 0) (ms' := 0) (M' := M_X12_kiteRow) (d' := 0) (as := [vI l1]) (st := [vA G 1]) 1 e_X12_earns_0.2.2.2.1 (kCSof m_X12_kiteRow l_X12_265) (by decide) (by decide) rfl rfl (by show (1 : Nat) ≤ 8; decide) ?_
  refine S_X12_kiteRow ?_
  refine R_eqs (st2 := [vI (34 + (9 * l1)), vA G 1]) (σ2 := σ) rfl rfl ?_
  refine R_iconst e_X12_earns_0.2.2.2.2.1 ?_
  refine R_iadd e_X12_earns_0.2.2.2.2.2.1 ?_
  refine R_sipush e_X12_earns_0.2.2.2.2.2.2.1 (by decide) ?_
  refine R_aload_n e_X12_earns_0.2.2.2.2.2.2.2.1 0 rfl ?_
  refine R_iload_n e_X12_earns_0.2.2.2.2.2.2.2.2.1 1 rfl ?_
  refine R_iconst e_X12_earns_0.2.2.2.2.2.2.2.2.2 ?_
  refine R_callV (mc := 0) (ms := 0) (mc' := 0) (ms' := 0) (M' := M_X12_of) (d' := 1) (as := [vI l1, vI 5]) (st := [vI 9999, vI ((34 + (9 * l1)) + 5), vA G 1]) 12 2 e_X12_earns_1.1 (kCVof m_X12_of l_X12_268) rfl (by decide) km_0 (by decide) (by decide) rfl rfl (by show (3 : Nat) ≤ 8; decide) ?_
  obtain ⟨q7, h⟩ := h
  refine S_X12_of ⟨q7, ?_⟩
  refine R_eqs (st2 := [vI (σ 1 ((34 + (9 * l1)) + 5)), vI 9999, vI ((34 + (9 * l1)) + 5), vA G 1]) (σ2 := σ) rfl rfl ?_
  refine R_iload_n e_X12_earns_1.2.1 2 rfl ?_
  refine R_iadd e_X12_earns_1.2.2.1 ?_
  obtain ⟨q10, h⟩ := h
  refine R_callS (mc := 0) (ms := 0) (mc' := 0) (ms' := 0) (M' := M_J9_min_7cf53) (d' := 0) (as := [vI 9999, vI ((σ 1 ((34 + (9 * l1)) + 5)) + l2)]) (st := [vI ((34 + (9 * l1)) + 5), vA G 1]) 2 e_X12_earns_1.2.2.2.1 (kCSof m_J9_min_7cf53 l_X12_148) (by decide) (by decide) rfl rfl (by show (2 : Nat) ≤ 8; decide) ?_
  refine Run.mono (P_J9_min_7cf53 q10) (fun r s e => ?_)
  obtain ⟨e1, e2⟩ := e
  refine R_eqs (st2 := [vI (min (9999) ((σ 1 ((34 + (9 * l1)) + 5)) + l2)), vI ((34 + (9 * l1)) + 5), vA G 1]) (σ2 := σ) (by rw [e1]; rfl) e2 ?_
  obtain ⟨q11, h⟩ := h
  refine R_iast 3598 WM_ok e_X12_earns_1.2.2.2.2.1 kma_1 q11 ?_
  exact R_return e_X12_earns_1.2.2.2.2.2 rfl h
/-! KiteLandModel.nears(III)V -/
theorem e_X12_nears_0 : decode cX12_nears 0 = .ok (.iload_n 1, 1) ∧ decode cX12_nears 1 = .ok (.invokestatic 352, 3) ∧ decode cX12_nears 4 = .ok (.istore 4, 2) ∧ decode cX12_nears 6 = .ok (.aload_n 0, 1) ∧ decode cX12_nears 7 = .ok (.getfield 7, 3) ∧ decode cX12_nears 10 = .ok (.iload 4, 2) ∧ decode cX12_nears 12 = .ok (.iaload, 1) ∧ decode cX12_nears 13 = .ok (.iload_n 2, 1) ∧ decode cX12_nears 14 = .ok (.if_icmp .eq 32, 3) ∧ decode cX12_nears 17 = .ok (.aload_n 0, 1) := by decide +kernel
theorem e_X12_nears_1 : decode cX12_nears 18 = .ok (.getfield 7, 3) ∧ decode cX12_nears 21 = .ok (.iload 4, 2) ∧ decode cX12_nears 23 = .ok (.dup2, 1) ∧ decode cX12_nears 24 = .ok (.iaload, 1) ∧ decode cX12_nears 25 = .ok (.aload_n 0, 1) ∧ decode cX12_nears 26 = .ok (.getfield 7, 3) ∧ decode cX12_nears 29 = .ok (.iload 4, 2) ∧ decode cX12_nears 31 = .ok (.iaload, 1) ∧ decode cX12_nears 32 = .ok (.iload_n 2, 1) ∧ decode cX12_nears 33 = .ok (.if_icmp .ge 7, 3) := by decide +kernel
theorem e_X12_nears_2 : decode cX12_nears 36 = .ok (.iconst 1, 1) ∧ decode cX12_nears 37 = .ok (.goto 4, 3) ∧ decode cX12_nears 40 = .ok (.iconst (-1), 1) ∧ decode cX12_nears 41 = .ok (.iadd, 1) ∧ decode cX12_nears 42 = .ok (.iastore, 1) ∧ decode cX12_nears 43 = .ok (.goto 33, 3) ∧ decode cX12_nears 46 = .ok (.aload_n 0, 1) ∧ decode cX12_nears 47 = .ok (.getfield 7, 3) ∧ decode cX12_nears 50 = .ok (.iload 4, 2) ∧ decode cX12_nears 52 = .ok (.iconst 1, 1) := by decide +kernel
theorem e_X12_nears_3 : decode cX12_nears 53 = .ok (.iadd, 1) ∧ decode cX12_nears 54 = .ok (.dup2, 1) ∧ decode cX12_nears 55 = .ok (.iaload, 1) ∧ decode cX12_nears 56 = .ok (.aload_n 0, 1) ∧ decode cX12_nears 57 = .ok (.getfield 7, 3) ∧ decode cX12_nears 60 = .ok (.iload 4, 2) ∧ decode cX12_nears 62 = .ok (.iconst 1, 1) ∧ decode cX12_nears 63 = .ok (.iadd, 1) ∧ decode cX12_nears 64 = .ok (.iaload, 1) ∧ decode cX12_nears 65 = .ok (.iload_n 3, 1) := by decide +kernel
theorem e_X12_nears_4 : decode cX12_nears 66 = .ok (.if_icmp .ge 7, 3) ∧ decode cX12_nears 69 = .ok (.iconst 1, 1) ∧ decode cX12_nears 70 = .ok (.goto 4, 3) ∧ decode cX12_nears 73 = .ok (.iconst (-1), 1) ∧ decode cX12_nears 74 = .ok (.iadd, 1) ∧ decode cX12_nears 75 = .ok (.iastore, 1) ∧ decode cX12_nears 76 = .ok (.return_, 1) := by decide +kernel
theorem S_X12_nears {G : Kg} {σ : Kmem} {Q : Int → Kmem → Prop} {l1 l2 l3 : Int}  (h : (0 ≤ 120 + (5 * l1) ∧ 120 + (5 * l1) < 3598) ∧ (rI (σ 1 (120 + (5 * l1)))) ∧ (rI l2) ∧ ((σ 1 (120 + (5 * l1)) = l2 → (0 ≤ (120 + (5 * l1)) + 1 ∧ (120 + (5 * l1)) + 1 < 3598) ∧ (0 ≤ (120 + (5 * l1)) + 1 ∧ (120 + (5 * l1)) + 1 < 3598) ∧ (rI (σ 1 ((120 + (5 * l1)) + 1))) ∧ (rI l3) ∧ ((l3 ≤ σ 1 ((120 + (5 * l1)) + 1) → (0 ≤ (120 + (5 * l1)) + 1 ∧ (120 + (5 * l1)) + 1 < 3598) ∧ Q 0 (kup σ 1 ((120 + (5 * l1)) + 1) ((σ 1 ((120 + (5 * l1)) + 1)) + (-1)))) ∧ (σ 1 ((120 + (5 * l1)) + 1) < l3 → (0 ≤ (120 + (5 * l1)) + 1 ∧ (120 + (5 * l1)) + 1 < 3598) ∧ Q 0 (kup σ 1 ((120 + (5 * l1)) + 1) ((σ 1 ((120 + (5 * l1)) + 1)) + 1))))) ∧ (σ 1 (120 + (5 * l1)) ≠ l2 → (0 ≤ 120 + (5 * l1) ∧ 120 + (5 * l1) < 3598) ∧ (0 ≤ 120 + (5 * l1) ∧ 120 + (5 * l1) < 3598) ∧ ((l2 ≤ σ 1 (120 + (5 * l1)) → (0 ≤ 120 + (5 * l1) ∧ 120 + (5 * l1) < 3598) ∧ Q 0 (kup σ 1 (120 + (5 * l1)) ((σ 1 (120 + (5 * l1))) + (-1)))) ∧ (σ 1 (120 + (5 * l1)) < l2 → (0 ≤ 120 + (5 * l1) ∧ 120 + (5 * l1) < 3598) ∧ Q 0 (kup σ 1 (120 + (5 * l1)) ((σ 1 (120 + (5 * l1))) + 1))))))) : Run G WM M_X12_nears 1 0 0 [vA G 0, vI l1, vI l2, vI l3] σ Q := by
  refine Run.of (by decide +kernel) (by show (4 : Nat) ≤ 5; decide) ?_
  show Ex G WM M_X12_nears 1 0 0 0 [(0, vA G 0), (1, vI l1), (2, vI l2), (3, vI l3)] [] σ Q
  refine R_iload_n e_X12_nears_0.1 1 rfl ?_
  refine R_callS (mc := 0) (ms := 0) (mc' := 0) (ms' := 0) (M' := M_X12_tenantRow) (d' := 0) (as := [vI l1]) (st := []) 1 e_X12_nears_0.2.1 (kCSof m_X12_tenantRow l_X12_352) (by decide) (by decide) rfl rfl (by show (0 : Nat) ≤ 8; decide) ?_
  refine S_X12_tenantRow ?_
  refine R_eqs (st2 := [vI (120 + (5 * l1))]) (σ2 := σ) rfl rfl ?_
  refine R_istore (ls2 := [(4, vI (120 + (5 * l1))), (0, vA G 0), (1, vI l1), (2, vI l2), (3, vI l3)]) e_X12_nears_0.2.2.1 (by decide) rfl ?_
  refine R_aload_n e_X12_nears_0.2.2.2.1 1 rfl ?_
  refine R_getA 12 0 1 e_X12_nears_0.2.2.2.2.1 f_X12_7 km_0 (fun _ _ => rfl) rm_0_0 (by decide) ?_
  refine R_iload e_X12_nears_0.2.2.2.2.2.1 0 rfl ?_
  obtain ⟨q3, h⟩ := h
  refine R_iald 3598 e_X12_nears_0.2.2.2.2.2.2.1 kma_1 q3 ?_
  refine R_iload_n e_X12_nears_0.2.2.2.2.2.2.2.1 3 rfl ?_
  obtain ⟨q4, h⟩ := h
  obtain ⟨q5, h⟩ := h
  refine R_icmp_eq 46 e_X12_nears_0.2.2.2.2.2.2.2.2.1 (by decide) q4 q5 (fun q => ?_) (fun q => ?_)
  · replace h := h.1 q
    refine R_aload_n e_X12_nears_2.2.2.2.2.2.2.1 1 rfl ?_
    refine R_getA 12 0 1 e_X12_nears_2.2.2.2.2.2.2.2.1 f_X12_7 km_0 (fun _ _ => rfl) rm_0_0 (by decide) ?_
    refine R_iload e_X12_nears_2.2.2.2.2.2.2.2.2.1 0 rfl ?_
    refine R_iconst e_X12_nears_2.2.2.2.2.2.2.2.2.2 ?_
    refine R_iadd e_X12_nears_3.1 ?_
    refine R_dup2 e_X12_nears_3.2.1 rfl rfl ?_
    obtain ⟨q6, h⟩ := h
    refine R_iald 3598 e_X12_nears_3.2.2.1 kma_1 q6 ?_
    refine R_aload_n e_X12_nears_3.2.2.2.1 1 rfl ?_
    refine R_getA 12 0 1 e_X12_nears_3.2.2.2.2.1 f_X12_7 km_0 (fun _ _ => rfl) rm_0_0 (by decide) ?_
    refine R_iload e_X12_nears_3.2.2.2.2.2.1 0 rfl ?_
    refine R_iconst e_X12_nears_3.2.2.2.2.2.2.1 ?_
    refine R_iadd e_X12_nears_3.2.2.2.2.2.2.2.1 ?_
    obtain ⟨q7, h⟩ := h
    refine R_iald 3598 e_X12_nears_3.2.2.2.2.2.2.2.2.1 kma_1 q7 ?_
    refine R_iload_n e_X12_nears_3.2.2.2.2.2.2.2.2.2 4 rfl ?_
    obtain ⟨q8, h⟩ := h
    obtain ⟨q9, h⟩ := h
    refine R_icmp_ge 73 e_X12_nears_4.1 (by decide) q8 q9 (fun q => ?_) (fun q => ?_)
    · replace h := h.1 q
      refine R_iconst e_X12_nears_4.2.2.2.1 ?_
      refine R_iadd e_X12_nears_4.2.2.2.2.1 ?_
      obtain ⟨q10, h⟩ := h
      refine R_iast 3598 WM_ok e_X12_nears_4.2.2.2.2.2.1 kma_1 q10 ?_
      exact R_return e_X12_nears_4.2.2.2.2.2.2 rfl h
    · replace h := h.2 q
      refine R_iconst e_X12_nears_4.2.1 ?_
      refine R_goto 74 e_X12_nears_4.2.2.1 (by decide) ?_
      refine R_iadd e_X12_nears_4.2.2.2.2.1 ?_
      obtain ⟨q11, h⟩ := h
      refine R_iast 3598 WM_ok e_X12_nears_4.2.2.2.2.2.1 kma_1 q11 ?_
      exact R_return e_X12_nears_4.2.2.2.2.2.2 rfl h
  · replace h := h.2 q
    refine R_aload_n e_X12_nears_0.2.2.2.2.2.2.2.2.2 1 rfl ?_
    refine R_getA 12 0 1 e_X12_nears_1.1 f_X12_7 km_0 (fun _ _ => rfl) rm_0_0 (by decide) ?_
    refine R_iload e_X12_nears_1.2.1 0 rfl ?_
    refine R_dup2 e_X12_nears_1.2.2.1 rfl rfl ?_
    obtain ⟨q12, h⟩ := h
    refine R_iald 3598 e_X12_nears_1.2.2.2.1 kma_1 q12 ?_
    refine R_aload_n e_X12_nears_1.2.2.2.2.1 1 rfl ?_
    refine R_getA 12 0 1 e_X12_nears_1.2.2.2.2.2.1 f_X12_7 km_0 (fun _ _ => rfl) rm_0_0 (by decide) ?_
    refine R_iload e_X12_nears_1.2.2.2.2.2.2.1 0 rfl ?_
    obtain ⟨q13, h⟩ := h
    refine R_iald 3598 e_X12_nears_1.2.2.2.2.2.2.2.1 kma_1 q13 ?_
    refine R_iload_n e_X12_nears_1.2.2.2.2.2.2.2.2.1 3 rfl ?_
    refine R_icmp_ge 40 e_X12_nears_1.2.2.2.2.2.2.2.2.2 (by decide) q4 q5 (fun q => ?_) (fun q => ?_)
    · replace h := h.1 q
      refine R_iconst e_X12_nears_2.2.2.1 ?_
      refine R_iadd e_X12_nears_2.2.2.2.1 ?_
      obtain ⟨q14, h⟩ := h
      refine R_iast 3598 WM_ok e_X12_nears_2.2.2.2.2.1 kma_1 q14 ?_
      refine R_goto 76 e_X12_nears_2.2.2.2.2.2.1 (by decide) ?_
      exact R_return e_X12_nears_4.2.2.2.2.2.2 rfl h
    · replace h := h.2 q
      refine R_iconst e_X12_nears_2.1 ?_
      refine R_goto 41 e_X12_nears_2.2.1 (by decide) ?_
      refine R_iadd e_X12_nears_2.2.2.2.1 ?_
      obtain ⟨q15, h⟩ := h
      refine R_iast 3598 WM_ok e_X12_nears_2.2.2.2.2.1 kma_1 q15 ?_
      refine R_goto 76 e_X12_nears_2.2.2.2.2.2.1 (by decide) ?_
      exact R_return e_X12_nears_4.2.2.2.2.2.2 rfl h
/-! KiteLandModel.goes(I)V -/
theorem e_X12_goes_0 : decode cX12_goes 0 = .ok (.iload_n 1, 1) ∧ decode cX12_goes 1 = .ok (.invokestatic 352, 3) ∧ decode cX12_goes 4 = .ok (.istore_n 2, 1) ∧ decode cX12_goes 5 = .ok (.aload_n 0, 1) ∧ decode cX12_goes 6 = .ok (.getfield 7, 3) ∧ decode cX12_goes 9 = .ok (.iload_n 2, 1) ∧ decode cX12_goes 10 = .ok (.iconst 2, 1) ∧ decode cX12_goes 11 = .ok (.iadd, 1) ∧ decode cX12_goes 12 = .ok (.iaload, 1) ∧ decode cX12_goes 13 = .ok (.istore_n 3, 1) := by decide +kernel
theorem e_X12_goes_1 : decode cX12_goes 14 = .ok (.aload_n 0, 1) ∧ decode cX12_goes 15 = .ok (.aload_n 0, 1) ∧ decode cX12_goes 16 = .ok (.getfield 7, 3) ∧ decode cX12_goes 19 = .ok (.iload_n 2, 1) ∧ decode cX12_goes 20 = .ok (.iaload, 1) ∧ decode cX12_goes 21 = .ok (.aload_n 0, 1) ∧ decode cX12_goes 22 = .ok (.getfield 7, 3) ∧ decode cX12_goes 25 = .ok (.iload_n 2, 1) ∧ decode cX12_goes 26 = .ok (.iconst 1, 1) ∧ decode cX12_goes 27 = .ok (.iadd, 1) := by decide +kernel
theorem e_X12_goes_2 : decode cX12_goes 28 = .ok (.iaload, 1) ∧ decode cX12_goes 29 = .ok (.aload_n 0, 1) ∧ decode cX12_goes 30 = .ok (.invokevirtual 325, 3) ∧ decode cX12_goes 33 = .ok (.invokevirtual 312, 3) ∧ decode cX12_goes 36 = .ok (.iload_n 3, 1) ∧ decode cX12_goes 37 = .ok (.if_icmp .ne 22, 3) ∧ decode cX12_goes 40 = .ok (.aload_n 0, 1) ∧ decode cX12_goes 41 = .ok (.getfield 7, 3) ∧ decode cX12_goes 44 = .ok (.iload_n 2, 1) ∧ decode cX12_goes 45 = .ok (.iconst 3, 1) := by decide +kernel
theorem e_X12_goes_3 : decode cX12_goes 46 = .ok (.iadd, 1) ∧ decode cX12_goes 47 = .ok (.dup2, 1) ∧ decode cX12_goes 48 = .ok (.iaload, 1) ∧ decode cX12_goes 49 = .ok (.iconst 1, 1) ∧ decode cX12_goes 50 = .ok (.iadd, 1) ∧ decode cX12_goes 51 = .ok (.iastore, 1) ∧ decode cX12_goes 52 = .ok (.aload_n 0, 1) ∧ decode cX12_goes 53 = .ok (.iload_n 3, 1) ∧ decode cX12_goes 54 = .ok (.iconst 1, 1) ∧ decode cX12_goes 55 = .ok (.invokevirtual 373, 3) := by decide +kernel
theorem e_X12_goes_4 : decode cX12_goes 58 = .ok (.return_, 1) ∧ decode cX12_goes 59 = .ok (.ldc_w 377, 3) ∧ decode cX12_goes 62 = .ok (.istore 4, 2) ∧ decode cX12_goes 64 = .ok (.iconst 0, 1) ∧ decode cX12_goes 65 = .ok (.istore 5, 2) ∧ decode cX12_goes 67 = .ok (.iconst 0, 1) ∧ decode cX12_goes 68 = .ok (.istore 6, 2) ∧ decode cX12_goes 70 = .ok (.iconst 0, 1) ∧ decode cX12_goes 71 = .ok (.istore 7, 2) ∧ decode cX12_goes 73 = .ok (.iload 7, 2) := by decide +kernel
theorem e_X12_goes_5 : decode cX12_goes 75 = .ok (.aload_n 0, 1) ∧ decode cX12_goes 76 = .ok (.getfield 7, 3) ∧ decode cX12_goes 79 = .ok (.iconst 1, 1) ∧ decode cX12_goes 80 = .ok (.iaload, 1) ∧ decode cX12_goes 81 = .ok (.if_icmp .ge 81, 3) ∧ decode cX12_goes 84 = .ok (.iconst 0, 1) ∧ decode cX12_goes 85 = .ok (.istore 8, 2) ∧ decode cX12_goes 87 = .ok (.iload 8, 2) ∧ decode cX12_goes 89 = .ok (.aload_n 0, 1) ∧ decode cX12_goes 90 = .ok (.getfield 7, 3) := by decide +kernel
theorem e_X12_goes_6 : decode cX12_goes 93 = .ok (.iconst 0, 1) ∧ decode cX12_goes 94 = .ok (.iaload, 1) ∧ decode cX12_goes 95 = .ok (.if_icmp .ge 61, 3) ∧ decode cX12_goes 98 = .ok (.aload_n 0, 1) ∧ decode cX12_goes 99 = .ok (.iload 8, 2) ∧ decode cX12_goes 101 = .ok (.iload 7, 2) ∧ decode cX12_goes 103 = .ok (.aload_n 0, 1) ∧ decode cX12_goes 104 = .ok (.invokevirtual 325, 3) ∧ decode cX12_goes 107 = .ok (.invokevirtual 312, 3) ∧ decode cX12_goes 110 = .ok (.iload_n 3, 1) := by decide +kernel
theorem e_X12_goes_7 : decode cX12_goes 111 = .ok (.if_icmp .ne 39, 3) ∧ decode cX12_goes 114 = .ok (.aload_n 0, 1) ∧ decode cX12_goes 115 = .ok (.iload_n 1, 1) ∧ decode cX12_goes 116 = .ok (.iload 8, 2) ∧ decode cX12_goes 118 = .ok (.iload 7, 2) ∧ decode cX12_goes 120 = .ok (.invokevirtual 378, 3) ∧ decode cX12_goes 123 = .ok (.iload 4, 2) ∧ decode cX12_goes 125 = .ok (.if_icmp .lt 6, 3) ∧ decode cX12_goes 128 = .ok (.goto 22, 3) ∧ decode cX12_goes 131 = .ok (.aload_n 0, 1) := by decide +kernel
theorem e_X12_goes_8 : decode cX12_goes 132 = .ok (.iload_n 1, 1) ∧ decode cX12_goes 133 = .ok (.iload 8, 2) ∧ decode cX12_goes 135 = .ok (.iload 7, 2) ∧ decode cX12_goes 137 = .ok (.invokevirtual 378, 3) ∧ decode cX12_goes 140 = .ok (.istore 4, 2) ∧ decode cX12_goes 142 = .ok (.iload 8, 2) ∧ decode cX12_goes 144 = .ok (.istore 5, 2) ∧ decode cX12_goes 146 = .ok (.iload 7, 2) ∧ decode cX12_goes 148 = .ok (.istore 6, 2) ∧ decode cX12_goes 150 = .ok (.iinc 8 1, 3) := by decide +kernel
theorem e_X12_goes_9 : decode cX12_goes 153 = .ok (.goto (-66), 3) ∧ decode cX12_goes 156 = .ok (.iinc 7 1, 3) ∧ decode cX12_goes 159 = .ok (.goto (-86), 3) ∧ decode cX12_goes 162 = .ok (.iload 4, 2) ∧ decode cX12_goes 164 = .ok (.ldc_w 377, 3) ∧ decode cX12_goes 167 = .ok (.if_icmp .ne 18, 3) ∧ decode cX12_goes 170 = .ok (.aload_n 0, 1) ∧ decode cX12_goes 171 = .ok (.getfield 7, 3) ∧ decode cX12_goes 174 = .ok (.iload_n 2, 1) ∧ decode cX12_goes 175 = .ok (.iconst 4, 1) := by decide +kernel
theorem e_X12_goes_10 : decode cX12_goes 176 = .ok (.iadd, 1) ∧ decode cX12_goes 177 = .ok (.dup2, 1) ∧ decode cX12_goes 178 = .ok (.iaload, 1) ∧ decode cX12_goes 179 = .ok (.iconst 1, 1) ∧ decode cX12_goes 180 = .ok (.iadd, 1) ∧ decode cX12_goes 181 = .ok (.iastore, 1) ∧ decode cX12_goes 182 = .ok (.goto 12, 3) ∧ decode cX12_goes 185 = .ok (.aload_n 0, 1) ∧ decode cX12_goes 186 = .ok (.iload_n 1, 1) ∧ decode cX12_goes 187 = .ok (.iload 5, 2) := by decide +kernel
theorem e_X12_goes_11 : decode cX12_goes 189 = .ok (.iload 6, 2) ∧ decode cX12_goes 191 = .ok (.invokevirtual 381, 3) ∧ decode cX12_goes 194 = .ok (.return_, 1) := by decide +kernel
abbrev E_X12_goes_73 (G : Kg) (l1 l2 l3 l4 l5 l6 l7 : Int) (σ : Kmem) (Q : Int → Kmem → Prop) : Prop := Ex G WM M_X12_goes 7 0 0 73 [(0, vA G 0), (1, vI l1), (2, vI l2), (3, vI l3), (4, vI l4), (5, vI l5), (6, vI l6), (7, vI l7)] [] σ Q
abbrev E_X12_goes_87 (G : Kg) (l1 l2 l3 l4 l5 l6 l7 l8 : Int) (σ : Kmem) (Q : Int → Kmem → Prop) : Prop := Ex G WM M_X12_goes 7 0 0 87 [(0, vA G 0), (1, vI l1), (2, vI l2), (3, vI l3), (4, vI l4), (5, vI l5), (6, vI l6), (7, vI l7), (8, vI l8)] [] σ Q
theorem S_X12_goes {G : Kg} {σ : Kmem} {Q : Int → Kmem → Prop} {l1 : Int}  (h : (0 ≤ (120 + (5 * l1)) + 2 ∧ (120 + (5 * l1)) + 2 < 3598) ∧ (0 ≤ 120 + (5 * l1) ∧ 120 + (5 * l1) < 3598) ∧ (0 ≤ (120 + (5 * l1)) + 1 ∧ (120 + (5 * l1)) + 1 < 3598) ∧ (0 ≤ σ 1 7 ∧ σ 1 7 ≤ 2147483647) ∧ (wf (σ 1) ∧ ((0 : Int) ≤ σ 1 (120 + (5 * l1)) ∧ (σ 1 (120 + (5 * l1)) : Int) ≤ 100) ∧ ((0 : Int) ≤ σ 1 ((120 + (5 * l1)) + 1) ∧ (σ 1 ((120 + (5 * l1)) + 1) : Int) ≤ 100) ∧ sHr ((σ 1 7) % 12)) ∧ (rI (sOwn (σ 1) (σ 1 (120 + (5 * l1))) (σ 1 ((120 + (5 * l1)) + 1)) ((σ 1 7) % 12))) ∧ (rI (σ 1 ((120 + (5 * l1)) + 2))) ∧ ((sOwn (σ 1) (σ 1 (120 + (5 * l1))) (σ 1 ((120 + (5 * l1)) + 1)) ((σ 1 7) % 12) ≠ σ 1 ((120 + (5 * l1)) + 2) → E_X12_goes_73 G l1 (120 + (5 * l1)) (σ 1 ((120 + (5 * l1)) + 2)) 1000000 0 0 0 σ Q) ∧ (sOwn (σ 1) (σ 1 (120 + (5 * l1))) (σ 1 ((120 + (5 * l1)) + 1)) ((σ 1 7) % 12) = σ 1 ((120 + (5 * l1)) + 2) → (0 ≤ (120 + (5 * l1)) + 3 ∧ (120 + (5 * l1)) + 3 < 3598) ∧ (0 ≤ (120 + (5 * l1)) + 3 ∧ (120 + (5 * l1)) + 3 < 3598) ∧ (0 ≤ (34 + (9 * (σ 1 ((120 + (5 * l1)) + 2)))) + 5 ∧ (34 + (9 * (σ 1 ((120 + (5 * l1)) + 2)))) + 5 < 3598) ∧ (rI (9999) ∧ rI (((kup σ 1 ((120 + (5 * l1)) + 3) ((σ 1 ((120 + (5 * l1)) + 3)) + 1)) 1 ((34 + (9 * (σ 1 ((120 + (5 * l1)) + 2)))) + 5)) + 1)) ∧ (0 ≤ (34 + (9 * (σ 1 ((120 + (5 * l1)) + 2)))) + 5 ∧ (34 + (9 * (σ 1 ((120 + (5 * l1)) + 2)))) + 5 < 3598) ∧ Q 0 (kup (kup σ 1 ((120 + (5 * l1)) + 3) ((σ 1 ((120 + (5 * l1)) + 3)) + 1)) 1 ((34 + (9 * (σ 1 ((120 + (5 * l1)) + 2)))) + 5) (min (9999) (((kup σ 1 ((120 + (5 * l1)) + 3) ((σ 1 ((120 + (5 * l1)) + 3)) + 1)) 1 ((34 + (9 * (σ 1 ((120 + (5 * l1)) + 2)))) + 5)) + 1)))))) : Run G WM M_X12_goes 7 0 0 [vA G 0, vI l1] σ Q := by
  refine Run.of (by decide +kernel) (by show (2 : Nat) ≤ 9; decide) ?_
  show Ex G WM M_X12_goes 7 0 0 0 [(0, vA G 0), (1, vI l1)] [] σ Q
  refine R_iload_n e_X12_goes_0.1 1 rfl ?_
  refine R_callS (mc := 0) (ms := 0) (mc' := 0) (ms' := 0) (M' := M_X12_tenantRow) (d' := 0) (as := [vI l1]) (st := []) 1 e_X12_goes_0.2.1 (kCSof m_X12_tenantRow l_X12_352) (by decide) (by decide) rfl rfl (by show (0 : Nat) ≤ 8; decide) ?_
  refine S_X12_tenantRow ?_
  refine R_eqs (st2 := [vI (120 + (5 * l1))]) (σ2 := σ) rfl rfl ?_
  refine R_istore_n (ls2 := [(2, vI (120 + (5 * l1))), (0, vA G 0), (1, vI l1)]) e_X12_goes_0.2.2.1 (by decide) rfl ?_
  refine R_aload_n e_X12_goes_0.2.2.2.1 1 rfl ?_
  refine R_getA 12 0 1 e_X12_goes_0.2.2.2.2.1 f_X12_7 km_0 (fun _ _ => rfl) rm_0_0 (by decide) ?_
  refine R_iload_n e_X12_goes_0.2.2.2.2.2.1 0 rfl ?_
  refine R_iconst e_X12_goes_0.2.2.2.2.2.2.1 ?_
  refine R_iadd e_X12_goes_0.2.2.2.2.2.2.2.1 ?_
  obtain ⟨q3, h⟩ := h
  refine R_iald 3598 e_X12_goes_0.2.2.2.2.2.2.2.2.1 kma_1 q3 ?_
  refine R_istore_n (ls2 := [(3, vI (σ 1 ((120 + (5 * l1)) + 2))), (2, vI (120 + (5 * l1))), (0, vA G 0), (1, vI l1)]) e_X12_goes_0.2.2.2.2.2.2.2.2.2 (by decide) rfl ?_
  refine R_aload_n e_X12_goes_1.1 2 rfl ?_
  refine R_aload_n e_X12_goes_1.2.1 2 rfl ?_
  refine R_getA 12 0 1 e_X12_goes_1.2.2.1 f_X12_7 km_0 (fun _ _ => rfl) rm_0_0 (by decide) ?_
  refine R_iload_n e_X12_goes_1.2.2.2.1 1 rfl ?_
  obtain ⟨q4, h⟩ := h
  refine R_iald 3598 e_X12_goes_1.2.2.2.2.1 kma_1 q4 ?_
  refine R_aload_n e_X12_goes_1.2.2.2.2.2.1 2 rfl ?_
  refine R_getA 12 0 1 e_X12_goes_1.2.2.2.2.2.2.1 f_X12_7 km_0 (fun _ _ => rfl) rm_0_0 (by decide) ?_
  refine R_iload_n e_X12_goes_1.2.2.2.2.2.2.2.1 1 rfl ?_
  refine R_iconst e_X12_goes_1.2.2.2.2.2.2.2.2.1 ?_
  refine R_iadd e_X12_goes_1.2.2.2.2.2.2.2.2.2 ?_
  obtain ⟨q5, h⟩ := h
  refine R_iald 3598 e_X12_goes_2.1 kma_1 q5 ?_
  refine R_aload_n e_X12_goes_2.2.1 2 rfl ?_
  refine R_callV (mc := 0) (ms := 0) (mc' := 0) (ms' := 0) (M' := M_X12_now) (d' := 0) (as := []) (st := [vI (σ 1 ((120 + (5 * l1)) + 1)), vI (σ 1 (120 + (5 * l1))), vA G 0]) 12 0 e_X12_goes_2.2.2.1 (kCVof m_X12_now l_X12_325) rfl (by decide) km_0 (by decide) (by decide) rfl rfl (by show (3 : Nat) ≤ 8; decide) ?_
  obtain ⟨q8, h⟩ := h
  refine S_X12_now ⟨q8, ?_⟩
  refine R_eqs (st2 := [vI ((σ 1 7) % 12), vI (σ 1 ((120 + (5 * l1)) + 1)), vI (σ 1 (120 + (5 * l1))), vA G 0]) (σ2 := σ) rfl rfl ?_
  obtain ⟨q11, h⟩ := h
  refine R_callV (mc := 0) (ms := 0) (mc' := 0) (ms' := 0) (M' := M_X12_ownerOf) (d' := 6) (as := [vI (σ 1 (120 + (5 * l1))), vI (σ 1 ((120 + (5 * l1)) + 1)), vI ((σ 1 7) % 12)]) (st := []) 12 3 e_X12_goes_2.2.2.2.1 (kCVof m_X12_ownerOf l_X12_312) rfl (by decide) km_0 (by decide) (by decide) rfl rfl (by show (0 : Nat) ≤ 8; decide) ?_
  refine Run.mono (P_X12_ownerOf q11) (fun r s e => ?_)
  obtain ⟨e1, e2⟩ := e
  refine R_eqs (st2 := [vI (sOwn (σ 1) (σ 1 (120 + (5 * l1))) (σ 1 ((120 + (5 * l1)) + 1)) ((σ 1 7) % 12))]) (σ2 := σ) (by rw [e1]; rfl) e2 ?_
  refine R_iload_n e_X12_goes_2.2.2.2.2.1 0 rfl ?_
  obtain ⟨q12, h⟩ := h
  obtain ⟨q13, h⟩ := h
  refine R_icmp_ne 59 e_X12_goes_2.2.2.2.2.2.1 (by decide) q12 q13 (fun q => ?_) (fun q => ?_)
  · replace h := h.1 q
    refine R_ldc_w (1000000) k_X12_377 e_X12_goes_4.2.1 ?_
    refine R_istore (ls2 := [(4, vI 1000000), (3, vI (σ 1 ((120 + (5 * l1)) + 2))), (2, vI (120 + (5 * l1))), (0, vA G 0), (1, vI l1)]) e_X12_goes_4.2.2.1 (by decide) rfl ?_
    refine R_iconst e_X12_goes_4.2.2.2.1 ?_
    refine R_istore (ls2 := [(5, vI 0), (4, vI 1000000), (3, vI (σ 1 ((120 + (5 * l1)) + 2))), (2, vI (120 + (5 * l1))), (0, vA G 0), (1, vI l1)]) e_X12_goes_4.2.2.2.2.1 (by decide) rfl ?_
    refine R_iconst e_X12_goes_4.2.2.2.2.2.1 ?_
    refine R_istore (ls2 := [(6, vI 0), (5, vI 0), (4, vI 1000000), (3, vI (σ 1 ((120 + (5 * l1)) + 2))), (2, vI (120 + (5 * l1))), (0, vA G 0), (1, vI l1)]) e_X12_goes_4.2.2.2.2.2.2.1 (by decide) rfl ?_
    refine R_iconst e_X12_goes_4.2.2.2.2.2.2.2.1 ?_
    refine R_istore (ls2 := [(7, vI 0), (6, vI 0), (5, vI 0), (4, vI 1000000), (3, vI (σ 1 ((120 + (5 * l1)) + 2))), (2, vI (120 + (5 * l1))), (0, vA G 0), (1, vI l1)]) e_X12_goes_4.2.2.2.2.2.2.2.2.1 (by decide) rfl ?_
    refine R_ls (ls2 := [(0, vA G 0), (1, vI l1), (2, vI (120 + (5 * l1))), (3, vI (σ 1 ((120 + (5 * l1)) + 2))), (4, vI 1000000), (5, vI 0), (6, vI 0), (7, vI 0)]) [6, 7, 5, 4, 3, 2, 1, 0] rfl ?_
    exact h
  · replace h := h.2 q
    refine R_aload_n e_X12_goes_2.2.2.2.2.2.2.1 2 rfl ?_
    refine R_getA 12 0 1 e_X12_goes_2.2.2.2.2.2.2.2.1 f_X12_7 km_0 (fun _ _ => rfl) rm_0_0 (by decide) ?_
    refine R_iload_n e_X12_goes_2.2.2.2.2.2.2.2.2.1 1 rfl ?_
    refine R_iconst e_X12_goes_2.2.2.2.2.2.2.2.2.2 ?_
    refine R_iadd e_X12_goes_3.1 ?_
    refine R_dup2 e_X12_goes_3.2.1 rfl rfl ?_
    obtain ⟨q14, h⟩ := h
    refine R_iald 3598 e_X12_goes_3.2.2.1 kma_1 q14 ?_
    refine R_iconst e_X12_goes_3.2.2.2.1 ?_
    refine R_iadd e_X12_goes_3.2.2.2.2.1 ?_
    obtain ⟨q15, h⟩ := h
    refine R_iast 3598 WM_ok e_X12_goes_3.2.2.2.2.2.1 kma_1 q15 ?_
    refine R_aload_n e_X12_goes_3.2.2.2.2.2.2.1 2 rfl ?_
    refine R_iload_n e_X12_goes_3.2.2.2.2.2.2.2.1 0 rfl ?_
    refine R_iconst e_X12_goes_3.2.2.2.2.2.2.2.2.1 ?_
    refine R_callV (mc := 0) (ms := 0) (mc' := 0) (ms' := 0) (M' := M_X12_earns) (d' := 2) (as := [vI (σ 1 ((120 + (5 * l1)) + 2)), vI 1]) (st := []) 12 2 e_X12_goes_3.2.2.2.2.2.2.2.2.2 (kCVof m_X12_earns l_X12_373) rfl (by decide) km_0 (by decide) (by decide) rfl rfl (by show (0 : Nat) ≤ 8; decide) ?_
    obtain ⟨q24, h⟩ := h
    obtain ⟨q27, h⟩ := h
    obtain ⟨q28, h⟩ := h
    refine S_X12_earns ⟨q24, q27, q28, ?_⟩
    refine R_eqs (st2 := []) (σ2 := (kup (kup σ 1 ((120 + (5 * l1)) + 3) ((σ 1 ((120 + (5 * l1)) + 3)) + 1)) 1 ((34 + (9 * (σ 1 ((120 + (5 * l1)) + 2)))) + 5) (min (9999) (((kup σ 1 ((120 + (5 * l1)) + 3) ((σ 1 ((120 + (5 * l1)) + 3)) + 1)) 1 ((34 + (9 * (σ 1 ((120 + (5 * l1)) + 2)))) + 5)) + 1)))) rfl rfl ?_
    exact R_return e_X12_goes_4.1 rfl h
theorem S_X12_goes_73 {G : Kg} {σ : Kmem} {Q : Int → Kmem → Prop} {l1 l2 l3 l4 l5 l6 l7 : Int}  (h : (rI l7) ∧ (rI (σ 1 1)) ∧ ((σ 1 1 ≤ l7 → (rI l4) ∧ ((l4 ≠ 1000000 → Run G WM M_X12_nears 1 0 0 [vA G 0, vI l1, vI l5, vI l6] σ (fun r32 s33 => Q 0 s33)) ∧ (l4 = 1000000 → (0 ≤ l2 + 4 ∧ l2 + 4 < 3598) ∧ (0 ≤ l2 + 4 ∧ l2 + 4 < 3598) ∧ Q 0 (kup σ 1 (l2 + 4) ((σ 1 (l2 + 4)) + 1))))) ∧ (l7 < σ 1 1 → E_X12_goes_87 G l1 l2 l3 l4 l5 l6 l7 0 σ Q))) : E_X12_goes_73 G l1 l2 l3 l4 l5 l6 l7 σ Q := by
  refine R_iload e_X12_goes_4.2.2.2.2.2.2.2.2.2 7 rfl ?_
  refine R_aload_n e_X12_goes_5.1 0 rfl ?_
  refine R_getA 12 0 1 e_X12_goes_5.2.1 f_X12_7 km_0 (fun _ _ => rfl) rm_0_0 (by decide) ?_
  refine R_iconst e_X12_goes_5.2.2.1 ?_
  refine R_iald 3598 e_X12_goes_5.2.2.2.1 kma_1 (by decide) ?_
  obtain ⟨q29, h⟩ := h
  obtain ⟨q30, h⟩ := h
  refine R_icmp_ge 162 e_X12_goes_5.2.2.2.2.1 (by decide) q29 q30 (fun q => ?_) (fun q => ?_)
  · replace h := h.1 q
    refine R_iload e_X12_goes_9.2.2.2.1 4 rfl ?_
    refine R_ldc_w (1000000) k_X12_377 e_X12_goes_9.2.2.2.2.1 ?_
    obtain ⟨q31, h⟩ := h
    refine R_icmp_ne 185 e_X12_goes_9.2.2.2.2.2.1 (by decide) q31 (by decide) (fun q => ?_) (fun q => ?_)
    · replace h := h.1 q
      refine R_aload_n e_X12_goes_10.2.2.2.2.2.2.2.1 0 rfl ?_
      refine R_iload_n e_X12_goes_10.2.2.2.2.2.2.2.2.1 1 rfl ?_
      refine R_iload e_X12_goes_10.2.2.2.2.2.2.2.2.2 5 rfl ?_
      refine R_iload e_X12_goes_11.1 6 rfl ?_
      refine R_callV (mc := 0) (ms := 0) (mc' := 0) (ms' := 0) (M' := M_X12_nears) (d' := 1) (as := [vI l1, vI l5, vI l6]) (st := []) 12 3 e_X12_goes_11.2.1 (kCVof m_X12_nears l_X12_381) rfl (by decide) km_0 (by decide) (by decide) rfl rfl (by show (0 : Nat) ≤ 8; decide) ?_
      refine Run.mono h (fun r32 s33 h => ?_)
      refine R_eqs (st2 := []) rfl rfl ?_
      exact R_return e_X12_goes_11.2.2 rfl h
    · replace h := h.2 q
      refine R_aload_n e_X12_goes_9.2.2.2.2.2.2.1 0 rfl ?_
      refine R_getA 12 0 1 e_X12_goes_9.2.2.2.2.2.2.2.1 f_X12_7 km_0 (fun _ _ => rfl) rm_0_0 (by decide) ?_
      refine R_iload_n e_X12_goes_9.2.2.2.2.2.2.2.2.1 2 rfl ?_
      refine R_iconst e_X12_goes_9.2.2.2.2.2.2.2.2.2 ?_
      refine R_iadd e_X12_goes_10.1 ?_
      refine R_dup2 e_X12_goes_10.2.1 rfl rfl ?_
      obtain ⟨q34, h⟩ := h
      refine R_iald 3598 e_X12_goes_10.2.2.1 kma_1 q34 ?_
      refine R_iconst e_X12_goes_10.2.2.2.1 ?_
      refine R_iadd e_X12_goes_10.2.2.2.2.1 ?_
      obtain ⟨q35, h⟩ := h
      refine R_iast 3598 WM_ok e_X12_goes_10.2.2.2.2.2.1 kma_1 q35 ?_
      refine R_goto 194 e_X12_goes_10.2.2.2.2.2.2.1 (by decide) ?_
      exact R_return e_X12_goes_11.2.2 rfl h
  · replace h := h.2 q
    refine R_iconst e_X12_goes_5.2.2.2.2.2.1 ?_
    refine R_istore (ls2 := [(8, vI 0), (0, vA G 0), (1, vI l1), (2, vI l2), (3, vI l3), (4, vI l4), (5, vI l5), (6, vI l6), (7, vI l7)]) e_X12_goes_5.2.2.2.2.2.2.1 (by decide) rfl ?_
    refine R_ls (ls2 := [(0, vA G 0), (1, vI l1), (2, vI l2), (3, vI l3), (4, vI l4), (5, vI l5), (6, vI l6), (7, vI l7), (8, vI 0)]) [1, 2, 3, 4, 5, 6, 7, 8, 0] rfl ?_
    exact h
theorem S_X12_goes_87 {G : Kg} {σ : Kmem} {Q : Int → Kmem → Prop} {l1 l2 l3 l4 l5 l6 l7 l8 : Int}  (h : (rI l8) ∧ (rI (σ 1 0)) ∧ ((σ 1 0 ≤ l8 → E_X12_goes_73 G l1 l2 l3 l4 l5 l6 (l7 + 1) σ Q) ∧ (l8 < σ 1 0 → (0 ≤ σ 1 7 ∧ σ 1 7 ≤ 2147483647) ∧ (wf (σ 1) ∧ ((0 : Int) ≤ l8 ∧ (l8 : Int) ≤ 100) ∧ ((0 : Int) ≤ l7 ∧ (l7 : Int) ≤ 100) ∧ sHr ((σ 1 7) % 12)) ∧ (rI (sOwn (σ 1) (l8) (l7) ((σ 1 7) % 12))) ∧ (rI l3) ∧ ((sOwn (σ 1) (l8) (l7) ((σ 1 7) % 12) ≠ l3 → E_X12_goes_87 G l1 l2 l3 l4 l5 l6 l7 (l8 + 1) σ Q) ∧ (sOwn (σ 1) (l8) (l7) ((σ 1 7) % 12) = l3 → (wf (σ 1) ∧ ((0 : Int) ≤ l1 ∧ (l1 : Int) < (σ 1) 4) ∧ ((0 : Int) ≤ l8 ∧ (l8 : Int) ≤ 100) ∧ (0 : Int) ≤ l7 ∧ (l7 : Int) ≤ 100) ∧ (rI (kabs ((σ 1) (120 + 5 * (l1)) - l8) + kabs ((σ 1) (120 + 5 * (l1) + 1) - l7))) ∧ (rI l4) ∧ ((kabs ((σ 1) (120 + 5 * (l1)) - l8) + kabs ((σ 1) (120 + 5 * (l1) + 1) - l7) < l4 → (wf (σ 1) ∧ ((0 : Int) ≤ l1 ∧ (l1 : Int) < (σ 1) 4) ∧ ((0 : Int) ≤ l8 ∧ (l8 : Int) ≤ 100) ∧ (0 : Int) ≤ l7 ∧ (l7 : Int) ≤ 100) ∧ E_X12_goes_87 G l1 l2 l3 (kabs ((σ 1) (120 + 5 * (l1)) - l8) + kabs ((σ 1) (120 + 5 * (l1) + 1) - l7)) l8 l7 l7 (l8 + 1) σ Q) ∧ (l4 ≤ kabs ((σ 1) (120 + 5 * (l1)) - l8) + kabs ((σ 1) (120 + 5 * (l1) + 1) - l7) → E_X12_goes_87 G l1 l2 l3 l4 l5 l6 l7 (l8 + 1) σ Q))))))) : E_X12_goes_87 G l1 l2 l3 l4 l5 l6 l7 l8 σ Q := by
  refine R_iload e_X12_goes_5.2.2.2.2.2.2.2.1 8 rfl ?_
  refine R_aload_n e_X12_goes_5.2.2.2.2.2.2.2.2.1 0 rfl ?_
  refine R_getA 12 0 1 e_X12_goes_5.2.2.2.2.2.2.2.2.2 f_X12_7 km_0 (fun _ _ => rfl) rm_0_0 (by decide) ?_
  refine R_iconst e_X12_goes_6.1 ?_
  refine R_iald 3598 e_X12_goes_6.2.1 kma_1 (by decide) ?_
  obtain ⟨q36, h⟩ := h
  obtain ⟨q37, h⟩ := h
  refine R_icmp_ge 156 e_X12_goes_6.2.2.1 (by decide) q36 q37 (fun q => ?_) (fun q => ?_)
  · replace h := h.1 q
    refine R_iinc (ls2 := [(7, vI (l7 + 1)), (0, vA G 0), (1, vI l1), (2, vI l2), (3, vI l3), (4, vI l4), (5, vI l5), (6, vI l6), (8, vI l8)]) e_X12_goes_9.2.1 7 rfl (by decide) rfl ?_
    refine R_goto 73 e_X12_goes_9.2.2.1 (by decide) ?_
    refine R_ls (ls2 := [(0, vA G 0), (1, vI l1), (2, vI l2), (3, vI l3), (4, vI l4), (5, vI l5), (6, vI l6), (7, vI (l7 + 1))]) [1, 2, 3, 4, 5, 6, 7, 0] rfl ?_
    exact h
  · replace h := h.2 q
    refine R_aload_n e_X12_goes_6.2.2.2.1 0 rfl ?_
    refine R_iload e_X12_goes_6.2.2.2.2.1 8 rfl ?_
    refine R_iload e_X12_goes_6.2.2.2.2.2.1 7 rfl ?_
    refine R_aload_n e_X12_goes_6.2.2.2.2.2.2.1 0 rfl ?_
    refine R_callV (mc := 0) (ms := 0) (mc' := 0) (ms' := 0) (M' := M_X12_now) (d' := 0) (as := []) (st := [vI l7, vI l8, vA G 0]) 12 0 e_X12_goes_6.2.2.2.2.2.2.2.1 (kCVof m_X12_now l_X12_325) rfl (by decide) km_0 (by decide) (by decide) rfl rfl (by show (3 : Nat) ≤ 8; decide) ?_
    obtain ⟨q40, h⟩ := h
    refine S_X12_now ⟨q40, ?_⟩
    refine R_eqs (st2 := [vI ((σ 1 7) % 12), vI l7, vI l8, vA G 0]) (σ2 := σ) rfl rfl ?_
    obtain ⟨q43, h⟩ := h
    refine R_callV (mc := 0) (ms := 0) (mc' := 0) (ms' := 0) (M' := M_X12_ownerOf) (d' := 6) (as := [vI l8, vI l7, vI ((σ 1 7) % 12)]) (st := []) 12 3 e_X12_goes_6.2.2.2.2.2.2.2.2.1 (kCVof m_X12_ownerOf l_X12_312) rfl (by decide) km_0 (by decide) (by decide) rfl rfl (by show (0 : Nat) ≤ 8; decide) ?_
    refine Run.mono (P_X12_ownerOf q43) (fun r s e => ?_)
    obtain ⟨e1, e2⟩ := e
    refine R_eqs (st2 := [vI (sOwn (σ 1) (l8) (l7) ((σ 1 7) % 12))]) (σ2 := σ) (by rw [e1]; rfl) e2 ?_
    refine R_iload_n e_X12_goes_6.2.2.2.2.2.2.2.2.2 3 rfl ?_
    obtain ⟨q44, h⟩ := h
    obtain ⟨q45, h⟩ := h
    refine R_icmp_ne 150 e_X12_goes_7.1 (by decide) q44 q45 (fun q => ?_) (fun q => ?_)
    · replace h := h.1 q
      refine R_iinc (ls2 := [(8, vI (l8 + 1)), (0, vA G 0), (1, vI l1), (2, vI l2), (3, vI l3), (4, vI l4), (5, vI l5), (6, vI l6), (7, vI l7)]) e_X12_goes_8.2.2.2.2.2.2.2.2.2 8 rfl (by decide) rfl ?_
      refine R_goto 87 e_X12_goes_9.1 (by decide) ?_
      refine R_ls (ls2 := [(0, vA G 0), (1, vI l1), (2, vI l2), (3, vI l3), (4, vI l4), (5, vI l5), (6, vI l6), (7, vI l7), (8, vI (l8 + 1))]) [1, 2, 3, 4, 5, 6, 7, 8, 0] rfl ?_
      exact h
    · replace h := h.2 q
      refine R_aload_n e_X12_goes_7.2.1 0 rfl ?_
      refine R_iload_n e_X12_goes_7.2.2.1 1 rfl ?_
      refine R_iload e_X12_goes_7.2.2.2.1 8 rfl ?_
      refine R_iload e_X12_goes_7.2.2.2.2.1 7 rfl ?_
      obtain ⟨q48, h⟩ := h
      refine R_callV (mc := 0) (ms := 0) (mc' := 0) (ms' := 0) (M' := M_X12_stepsTo) (d' := 1) (as := [vI l1, vI l8, vI l7]) (st := []) 12 3 e_X12_goes_7.2.2.2.2.2.1 (kCVof m_X12_stepsTo l_X12_378) rfl (by decide) km_0 (by decide) (by decide) rfl rfl (by show (0 : Nat) ≤ 8; decide) ?_
      refine Run.mono (P_X12_stepsTo q48) (fun r s e => ?_)
      obtain ⟨e1, e2⟩ := e
      refine R_eqs (st2 := [vI (kabs ((σ 1) (120 + 5 * (l1)) - l8) + kabs ((σ 1) (120 + 5 * (l1) + 1) - l7))]) (σ2 := σ) (by rw [e1]; rfl) e2 ?_
      refine R_iload e_X12_goes_7.2.2.2.2.2.2.1 4 rfl ?_
      obtain ⟨q49, h⟩ := h
      obtain ⟨q50, h⟩ := h
      refine R_icmp_lt 131 e_X12_goes_7.2.2.2.2.2.2.2.1 (by decide) q49 q50 (fun q => ?_) (fun q => ?_)
      · replace h := h.1 q
        refine R_aload_n e_X12_goes_7.2.2.2.2.2.2.2.2.2 0 rfl ?_
        refine R_iload_n e_X12_goes_8.1 1 rfl ?_
        refine R_iload e_X12_goes_8.2.1 8 rfl ?_
        refine R_iload e_X12_goes_8.2.2.1 7 rfl ?_
        obtain ⟨q53, h⟩ := h
        refine R_callV (mc := 0) (ms := 0) (mc' := 0) (ms' := 0) (M' := M_X12_stepsTo) (d' := 1) (as := [vI l1, vI l8, vI l7]) (st := []) 12 3 e_X12_goes_8.2.2.2.1 (kCVof m_X12_stepsTo l_X12_378) rfl (by decide) km_0 (by decide) (by decide) rfl rfl (by show (0 : Nat) ≤ 8; decide) ?_
        refine Run.mono (P_X12_stepsTo q53) (fun r s e => ?_)
        obtain ⟨e1, e2⟩ := e
        refine R_eqs (st2 := [vI (kabs ((σ 1) (120 + 5 * (l1)) - l8) + kabs ((σ 1) (120 + 5 * (l1) + 1) - l7))]) (σ2 := σ) (by rw [e1]; rfl) e2 ?_
        refine R_istore (ls2 := [(4, vI (kabs ((σ 1) (120 + 5 * (l1)) - l8) + kabs ((σ 1) (120 + 5 * (l1) + 1) - l7))), (0, vA G 0), (1, vI l1), (2, vI l2), (3, vI l3), (5, vI l5), (6, vI l6), (7, vI l7), (8, vI l8)]) e_X12_goes_8.2.2.2.2.1 (by decide) rfl ?_
        refine R_iload e_X12_goes_8.2.2.2.2.2.1 8 rfl ?_
        refine R_istore (ls2 := [(5, vI l8), (4, vI (kabs ((σ 1) (120 + 5 * (l1)) - l8) + kabs ((σ 1) (120 + 5 * (l1) + 1) - l7))), (0, vA G 0), (1, vI l1), (2, vI l2), (3, vI l3), (6, vI l6), (7, vI l7), (8, vI l8)]) e_X12_goes_8.2.2.2.2.2.2.1 (by decide) rfl ?_
        refine R_iload e_X12_goes_8.2.2.2.2.2.2.2.1 7 rfl ?_
        refine R_istore (ls2 := [(6, vI l7), (5, vI l8), (4, vI (kabs ((σ 1) (120 + 5 * (l1)) - l8) + kabs ((σ 1) (120 + 5 * (l1) + 1) - l7))), (0, vA G 0), (1, vI l1), (2, vI l2), (3, vI l3), (7, vI l7), (8, vI l8)]) e_X12_goes_8.2.2.2.2.2.2.2.2.1 (by decide) rfl ?_
        refine R_iinc (ls2 := [(8, vI (l8 + 1)), (6, vI l7), (5, vI l8), (4, vI (kabs ((σ 1) (120 + 5 * (l1)) - l8) + kabs ((σ 1) (120 + 5 * (l1) + 1) - l7))), (0, vA G 0), (1, vI l1), (2, vI l2), (3, vI l3), (7, vI l7)]) e_X12_goes_8.2.2.2.2.2.2.2.2.2 8 rfl (by decide) rfl ?_
        refine R_goto 87 e_X12_goes_9.1 (by decide) ?_
        refine R_ls (ls2 := [(0, vA G 0), (1, vI l1), (2, vI l2), (3, vI l3), (4, vI (kabs ((σ 1) (120 + 5 * (l1)) - l8) + kabs ((σ 1) (120 + 5 * (l1) + 1) - l7))), (5, vI l8), (6, vI l7), (7, vI l7), (8, vI (l8 + 1))]) [4, 5, 6, 7, 3, 2, 1, 8, 0] rfl ?_
        exact h
      · replace h := h.2 q
        refine R_goto 150 e_X12_goes_7.2.2.2.2.2.2.2.2.1 (by decide) ?_
        refine R_iinc (ls2 := [(8, vI (l8 + 1)), (0, vA G 0), (1, vI l1), (2, vI l2), (3, vI l3), (4, vI l4), (5, vI l5), (6, vI l6), (7, vI l7)]) e_X12_goes_8.2.2.2.2.2.2.2.2.2 8 rfl (by decide) rfl ?_
        refine R_goto 87 e_X12_goes_9.1 (by decide) ?_
        refine R_ls (ls2 := [(0, vA G 0), (1, vI l1), (2, vI l2), (3, vI l3), (4, vI l4), (5, vI l5), (6, vI l6), (7, vI l7), (8, vI (l8 + 1))]) [1, 2, 3, 4, 5, 6, 7, 8, 0] rfl ?_
        exact h
/-! KiteLandModel.cuts()I -/
theorem e_X12_cuts_0 : decode cX12_cuts 0 = .ok (.aload_n 0, 1) ∧ decode cX12_cuts 1 = .ok (.invokevirtual 367, 3) ∧ decode cX12_cuts 4 = .ok (.istore_n 1, 1) ∧ decode cX12_cuts 5 = .ok (.iconst 0, 1) ∧ decode cX12_cuts 6 = .ok (.istore_n 2, 1) ∧ decode cX12_cuts 7 = .ok (.iload_n 2, 1) ∧ decode cX12_cuts 8 = .ok (.aload_n 0, 1) ∧ decode cX12_cuts 9 = .ok (.getfield 7, 3) ∧ decode cX12_cuts 12 = .ok (.iconst 2, 1) ∧ decode cX12_cuts 13 = .ok (.iaload, 1) := by decide +kernel
theorem e_X12_cuts_1 : decode cX12_cuts 14 = .ok (.if_icmp .ge 31, 3) ∧ decode cX12_cuts 17 = .ok (.aload_n 0, 1) ∧ decode cX12_cuts 18 = .ok (.iload_n 1, 1) ∧ decode cX12_cuts 19 = .ok (.iload_n 2, 1) ∧ decode cX12_cuts 20 = .ok (.invokevirtual 299, 3) ∧ decode cX12_cuts 23 = .ok (.ifCond .eq 16, 3) ∧ decode cX12_cuts 26 = .ok (.aload_n 0, 1) ∧ decode cX12_cuts 27 = .ok (.getfield 7, 3) ∧ decode cX12_cuts 30 = .ok (.iload_n 2, 1) ∧ decode cX12_cuts 31 = .ok (.invokestatic 265, 3) := by decide +kernel
theorem e_X12_cuts_2 : decode cX12_cuts 34 = .ok (.bipush 8, 2) ∧ decode cX12_cuts 36 = .ok (.iadd, 1) ∧ decode cX12_cuts 37 = .ok (.iconst 1, 1) ∧ decode cX12_cuts 38 = .ok (.iastore, 1) ∧ decode cX12_cuts 39 = .ok (.iinc 2 1, 3) ∧ decode cX12_cuts 42 = .ok (.goto (-35), 3) ∧ decode cX12_cuts 45 = .ok (.iload_n 1, 1) ∧ decode cX12_cuts 46 = .ok (.ireturn, 1) := by decide +kernel
abbrev E_X12_cuts_7 (G : Kg) (l1 l2 : Int) (σ : Kmem) (Q : Int → Kmem → Prop) : Prop := Ex G WM M_X12_cuts 7 0 0 7 [(0, vA G 0), (1, vI l1), (2, vI l2)] [] σ Q
theorem S_X12_cuts {G : Kg} {σ : Kmem} {Q : Int → Kmem → Prop}  (h : (wf (σ 1)) ∧ E_X12_cuts_7 G (sDooms (σ 1) : Int) 0 σ Q) : Run G WM M_X12_cuts 7 0 0 [vA G 0] σ Q := by
  refine Run.of (by decide +kernel) (by show (1 : Nat) ≤ 3; decide) ?_
  show Ex G WM M_X12_cuts 7 0 0 0 [(0, vA G 0)] [] σ Q
  refine R_aload_n e_X12_cuts_0.1 0 rfl ?_
  obtain ⟨q3, h⟩ := h
  refine R_callV (mc := 0) (ms := 0) (mc' := 0) (ms' := 0) (M' := M_X12_doomedNow) (d' := 6) (as := []) (st := []) 12 0 e_X12_cuts_0.2.1 (kCVof m_X12_doomedNow l_X12_367) rfl (by decide) km_0 (by decide) (by decide) rfl rfl (by show (0 : Nat) ≤ 8; decide) ?_
  refine Run.mono (P_X12_doomedNow q3) (fun r s e => ?_)
  obtain ⟨e1, e2⟩ := e
  refine R_eqs (st2 := [vI (sDooms (σ 1) : Int)]) (σ2 := σ) (by rw [e1]; rfl) e2 ?_
  refine R_istore_n (ls2 := [(1, vI (sDooms (σ 1) : Int)), (0, vA G 0)]) e_X12_cuts_0.2.2.1 (by decide) rfl ?_
  refine R_iconst e_X12_cuts_0.2.2.2.1 ?_
  refine R_istore_n (ls2 := [(2, vI 0), (1, vI (sDooms (σ 1) : Int)), (0, vA G 0)]) e_X12_cuts_0.2.2.2.2.1 (by decide) rfl ?_
  refine R_ls (ls2 := [(0, vA G 0), (1, vI (sDooms (σ 1) : Int)), (2, vI 0)]) [2, 1, 0] rfl ?_
  exact h
theorem S_X12_cuts_7 {G : Kg} {σ : Kmem} {Q : Int → Kmem → Prop} {l1 l2 : Int}  (h : (rI l2) ∧ (rI (σ 1 2)) ∧ ((σ 1 2 ≤ l2 → Q l1 σ) ∧ (l2 < σ 1 2 → (((0 : Int) ≤ l1 ∧ (l1 : Int) < 65536) ∧ (0 : Int) ≤ l2 ∧ (l2 : Int) < 31) ∧ ((¬ (sIn (l1) (l2)) → E_X12_cuts_7 G l1 (l2 + 1) σ Q) ∧ ((sIn (l1) (l2)) → (0 ≤ (34 + (9 * l2)) + 8 ∧ (34 + (9 * l2)) + 8 < 3598) ∧ E_X12_cuts_7 G l1 (l2 + 1) (kup σ 1 ((34 + (9 * l2)) + 8) 1) Q))))) : E_X12_cuts_7 G l1 l2 σ Q := by
  refine R_iload_n e_X12_cuts_0.2.2.2.2.2.1 2 rfl ?_
  refine R_aload_n e_X12_cuts_0.2.2.2.2.2.2.1 0 rfl ?_
  refine R_getA 12 0 1 e_X12_cuts_0.2.2.2.2.2.2.2.1 f_X12_7 km_0 (fun _ _ => rfl) rm_0_0 (by decide) ?_
  refine R_iconst e_X12_cuts_0.2.2.2.2.2.2.2.2.1 ?_
  refine R_iald 3598 e_X12_cuts_0.2.2.2.2.2.2.2.2.2 kma_1 (by decide) ?_
  obtain ⟨q4, h⟩ := h
  obtain ⟨q5, h⟩ := h
  refine R_icmp_ge 45 e_X12_cuts_1.1 (by decide) q4 q5 (fun q => ?_) (fun q => ?_)
  · replace h := h.1 q
    refine R_iload_n e_X12_cuts_2.2.2.2.2.2.2.1 1 rfl ?_
    exact R_ireturn e_X12_cuts_2.2.2.2.2.2.2.2 rfl h
  · replace h := h.2 q
    refine R_aload_n e_X12_cuts_1.2.1 0 rfl ?_
    refine R_iload_n e_X12_cuts_1.2.2.1 1 rfl ?_
    refine R_iload_n e_X12_cuts_1.2.2.2.1 2 rfl ?_
    obtain ⟨q8, h⟩ := h
    refine R_callV (mc := 0) (ms := 0) (mc' := 0) (ms' := 0) (M' := M_X12_isIn) (d' := 0) (as := [vI l1, vI l2]) (st := []) 12 2 e_X12_cuts_1.2.2.2.2.1 (kCVof m_X12_isIn l_X12_299) rfl (by decide) km_0 (by decide) (by decide) rfl rfl (by show (0 : Nat) ≤ 8; decide) ?_
    refine Run.mono (P_X12_isIn q8) (fun r s e => ?_)
    obtain ⟨e1, e2⟩ := e
    refine R_eqs (st2 := [vI (kb (sIn (l1) (l2)))]) (σ2 := σ) (by rw [e1]; rfl) e2 ?_
    refine R_if_eq 39 e_X12_cuts_1.2.2.2.2.2.1 (by decide) (kb_r _) (fun q => ?_) (fun q => ?_)
    · replace h := h.1 (kb_f q)
      refine R_iinc (ls2 := [(2, vI (l2 + 1)), (0, vA G 0), (1, vI l1)]) e_X12_cuts_2.2.2.2.2.1 2 rfl (by decide) rfl ?_
      refine R_goto 7 e_X12_cuts_2.2.2.2.2.2.1 (by decide) ?_
      refine R_ls (ls2 := [(0, vA G 0), (1, vI l1), (2, vI (l2 + 1))]) [1, 2, 0] rfl ?_
      exact h
    · replace h := h.2 (kb_t q)
      refine R_aload_n e_X12_cuts_1.2.2.2.2.2.2.1 0 rfl ?_
      refine R_getA 12 0 1 e_X12_cuts_1.2.2.2.2.2.2.2.1 f_X12_7 km_0 (fun _ _ => rfl) rm_0_0 (by decide) ?_
      refine R_iload_n e_X12_cuts_1.2.2.2.2.2.2.2.2.1 2 rfl ?_
      refine R_callS (mc := 0) (ms := 0) (mc' := 0) (ms' := 0) (M' := M_X12_kiteRow) (d' := 0) (as := [vI l2]) (st := [vA G 1]) 1 e_X12_cuts_1.2.2.2.2.2.2.2.2.2 (kCSof m_X12_kiteRow l_X12_265) (by decide) (by decide) rfl rfl (by show (1 : Nat) ≤ 8; decide) ?_
      refine S_X12_kiteRow ?_
      refine R_eqs (st2 := [vI (34 + (9 * l2)), vA G 1]) (σ2 := σ) rfl rfl ?_
      refine R_bipush e_X12_cuts_2.1 (by decide) ?_
      refine R_iadd e_X12_cuts_2.2.1 ?_
      refine R_iconst e_X12_cuts_2.2.2.1 ?_
      obtain ⟨q11, h⟩ := h
      refine R_iast 3598 WM_ok e_X12_cuts_2.2.2.2.1 kma_1 q11 ?_
      refine R_iinc (ls2 := [(2, vI (l2 + 1)), (0, vA G 0), (1, vI l1)]) e_X12_cuts_2.2.2.2.2.1 2 rfl (by decide) rfl ?_
      refine R_goto 7 e_X12_cuts_2.2.2.2.2.2.1 (by decide) ?_
      refine R_ls (ls2 := [(0, vA G 0), (1, vI l1), (2, vI (l2 + 1))]) [1, 2, 0] rfl ?_
      exact h
/-! KiteLandModel.goesBy()I -/
theorem e_X12_goesBy_0 : decode cX12_goesBy 0 = .ok (.aload_n 0, 1) ∧ decode cX12_goesBy 1 = .ok (.invokevirtual 385, 3) ∧ decode cX12_goesBy 4 = .ok (.istore_n 1, 1) ∧ decode cX12_goesBy 5 = .ok (.iconst 0, 1) ∧ decode cX12_goesBy 6 = .ok (.istore_n 2, 1) ∧ decode cX12_goesBy 7 = .ok (.iload_n 2, 1) ∧ decode cX12_goesBy 8 = .ok (.aload_n 0, 1) ∧ decode cX12_goesBy 9 = .ok (.getfield 7, 3) ∧ decode cX12_goesBy 12 = .ok (.iconst 3, 1) ∧ decode cX12_goesBy 13 = .ok (.iaload, 1) := by decide +kernel
theorem e_X12_goesBy_1 : decode cX12_goesBy 14 = .ok (.if_icmp .ge 77, 3) ∧ decode cX12_goesBy 17 = .ok (.iload_n 2, 1) ∧ decode cX12_goesBy 18 = .ok (.invokestatic 334, 3) ∧ decode cX12_goesBy 21 = .ok (.istore_n 3, 1) ∧ decode cX12_goesBy 22 = .ok (.aload_n 0, 1) ∧ decode cX12_goesBy 23 = .ok (.aload_n 0, 1) ∧ decode cX12_goesBy 24 = .ok (.getfield 7, 3) ∧ decode cX12_goesBy 27 = .ok (.iload_n 3, 1) ∧ decode cX12_goesBy 28 = .ok (.iaload, 1) ∧ decode cX12_goesBy 29 = .ok (.aload_n 0, 1) := by decide +kernel
theorem e_X12_goesBy_2 : decode cX12_goesBy 30 = .ok (.getfield 7, 3) ∧ decode cX12_goesBy 33 = .ok (.iload_n 3, 1) ∧ decode cX12_goesBy 34 = .ok (.iconst 1, 1) ∧ decode cX12_goesBy 35 = .ok (.iadd, 1) ∧ decode cX12_goesBy 36 = .ok (.iaload, 1) ∧ decode cX12_goesBy 37 = .ok (.aload_n 0, 1) ∧ decode cX12_goesBy 38 = .ok (.invokevirtual 325, 3) ∧ decode cX12_goesBy 41 = .ok (.invokevirtual 312, 3) ∧ decode cX12_goesBy 44 = .ok (.istore 4, 2) ∧ decode cX12_goesBy 46 = .ok (.iload 4, 2) := by decide +kernel
theorem e_X12_goesBy_3 : decode cX12_goesBy 48 = .ok (.iconst (-1), 1) ∧ decode cX12_goesBy 49 = .ok (.if_icmp .ne 6, 3) ∧ decode cX12_goesBy 52 = .ok (.goto 33, 3) ∧ decode cX12_goesBy 55 = .ok (.aload_n 0, 1) ∧ decode cX12_goesBy 56 = .ok (.getfield 7, 3) ∧ decode cX12_goesBy 59 = .ok (.iload_n 3, 1) ∧ decode cX12_goesBy 60 = .ok (.iconst 3, 1) ∧ decode cX12_goesBy 61 = .ok (.iadd, 1) ∧ decode cX12_goesBy 62 = .ok (.bipush 99, 2) ∧ decode cX12_goesBy 64 = .ok (.aload_n 0, 1) := by decide +kernel
theorem e_X12_goesBy_4 : decode cX12_goesBy 65 = .ok (.getfield 7, 3) ∧ decode cX12_goesBy 68 = .ok (.iload_n 3, 1) ∧ decode cX12_goesBy 69 = .ok (.iconst 3, 1) ∧ decode cX12_goesBy 70 = .ok (.iadd, 1) ∧ decode cX12_goesBy 71 = .ok (.iaload, 1) ∧ decode cX12_goesBy 72 = .ok (.iconst 1, 1) ∧ decode cX12_goesBy 73 = .ok (.iadd, 1) ∧ decode cX12_goesBy 74 = .ok (.invokestatic 148, 3) ∧ decode cX12_goesBy 77 = .ok (.iastore, 1) ∧ decode cX12_goesBy 78 = .ok (.aload_n 0, 1) := by decide +kernel
theorem e_X12_goesBy_5 : decode cX12_goesBy 79 = .ok (.iload 4, 2) ∧ decode cX12_goesBy 81 = .ok (.iconst 1, 1) ∧ decode cX12_goesBy 82 = .ok (.invokevirtual 373, 3) ∧ decode cX12_goesBy 85 = .ok (.iinc 2 1, 3) ∧ decode cX12_goesBy 88 = .ok (.goto (-81), 3) ∧ decode cX12_goesBy 91 = .ok (.iconst 0, 1) ∧ decode cX12_goesBy 92 = .ok (.istore_n 2, 1) ∧ decode cX12_goesBy 93 = .ok (.iload_n 2, 1) ∧ decode cX12_goesBy 94 = .ok (.aload_n 0, 1) ∧ decode cX12_goesBy 95 = .ok (.getfield 7, 3) := by decide +kernel
theorem e_X12_goesBy_6 : decode cX12_goesBy 98 = .ok (.iconst 4, 1) ∧ decode cX12_goesBy 99 = .ok (.iaload, 1) ∧ decode cX12_goesBy 100 = .ok (.if_icmp .ge 14, 3) ∧ decode cX12_goesBy 103 = .ok (.aload_n 0, 1) ∧ decode cX12_goesBy 104 = .ok (.iload_n 2, 1) ∧ decode cX12_goesBy 105 = .ok (.invokevirtual 388, 3) ∧ decode cX12_goesBy 108 = .ok (.iinc 2 1, 3) ∧ decode cX12_goesBy 111 = .ok (.goto (-18), 3) ∧ decode cX12_goesBy 114 = .ok (.aload_n 0, 1) ∧ decode cX12_goesBy 115 = .ok (.getfield 7, 3) := by decide +kernel
theorem e_X12_goesBy_7 : decode cX12_goesBy 118 = .ok (.bipush 7, 2) ∧ decode cX12_goesBy 120 = .ok (.dup2, 1) ∧ decode cX12_goesBy 121 = .ok (.iaload, 1) ∧ decode cX12_goesBy 122 = .ok (.iconst 1, 1) ∧ decode cX12_goesBy 123 = .ok (.iadd, 1) ∧ decode cX12_goesBy 124 = .ok (.iastore, 1) ∧ decode cX12_goesBy 125 = .ok (.iload_n 1, 1) ∧ decode cX12_goesBy 126 = .ok (.ireturn, 1) := by decide +kernel
abbrev E_X12_goesBy_7 (G : Kg) (l1 l2 : Int) (σ : Kmem) (Q : Int → Kmem → Prop) : Prop := Ex G WM M_X12_goesBy 8 0 0 7 [(0, vA G 0), (1, vI l1), (2, vI l2)] [] σ Q
abbrev E_X12_goesBy_93 (G : Kg) (l1 l2 : Int) (σ : Kmem) (Q : Int → Kmem → Prop) : Prop := Ex G WM M_X12_goesBy 8 0 0 93 [(0, vA G 0), (1, vI l1), (2, vI l2)] [] σ Q
theorem S_X12_goesBy {G : Kg} {σ : Kmem} {Q : Int → Kmem → Prop}  (h : Run G WM M_X12_cuts 7 0 0 [vA G 0] σ (fun r1 s2 => E_X12_goesBy_7 G r1 0 s2 Q)) : Run G WM M_X12_goesBy 8 0 0 [vA G 0] σ Q := by
  refine Run.of (by decide +kernel) (by show (1 : Nat) ≤ 5; decide) ?_
  show Ex G WM M_X12_goesBy 8 0 0 0 [(0, vA G 0)] [] σ Q
  refine R_aload_n e_X12_goesBy_0.1 0 rfl ?_
  refine R_callV (mc := 0) (ms := 0) (mc' := 0) (ms' := 0) (M' := M_X12_cuts) (d' := 7) (as := []) (st := []) 12 0 e_X12_goesBy_0.2.1 (kCVof m_X12_cuts l_X12_385) rfl (by decide) km_0 (by decide) (by decide) rfl rfl (by show (0 : Nat) ≤ 8; decide) ?_
  refine Run.mono h (fun r1 s2 h => ?_)
  refine R_eqs (st2 := [vI r1]) rfl rfl ?_
  refine R_istore_n (ls2 := [(1, vI r1), (0, vA G 0)]) e_X12_goesBy_0.2.2.1 (by decide) rfl ?_
  refine R_iconst e_X12_goesBy_0.2.2.2.1 ?_
  refine R_istore_n (ls2 := [(2, vI 0), (1, vI r1), (0, vA G 0)]) e_X12_goesBy_0.2.2.2.2.1 (by decide) rfl ?_
  refine R_ls (ls2 := [(0, vA G 0), (1, vI r1), (2, vI 0)]) [2, 1, 0] rfl ?_
  exact h
theorem S_X12_goesBy_7 {G : Kg} {σ : Kmem} {Q : Int → Kmem → Prop} {l1 l2 : Int}  (h : (rI l2) ∧ (rI (σ 1 3)) ∧ ((σ 1 3 ≤ l2 → E_X12_goesBy_93 G l1 0 σ Q) ∧ (l2 < σ 1 3 → (0 ≤ 88 + (4 * l2) ∧ 88 + (4 * l2) < 3598) ∧ (0 ≤ (88 + (4 * l2)) + 1 ∧ (88 + (4 * l2)) + 1 < 3598) ∧ (0 ≤ σ 1 7 ∧ σ 1 7 ≤ 2147483647) ∧ (wf (σ 1) ∧ ((0 : Int) ≤ σ 1 (88 + (4 * l2)) ∧ (σ 1 (88 + (4 * l2)) : Int) ≤ 100) ∧ ((0 : Int) ≤ σ 1 ((88 + (4 * l2)) + 1) ∧ (σ 1 ((88 + (4 * l2)) + 1) : Int) ≤ 100) ∧ sHr ((σ 1 7) % 12)) ∧ (rI (sOwn (σ 1) (σ 1 (88 + (4 * l2))) (σ 1 ((88 + (4 * l2)) + 1)) ((σ 1 7) % 12))) ∧ ((sOwn (σ 1) (σ 1 (88 + (4 * l2))) (σ 1 ((88 + (4 * l2)) + 1)) ((σ 1 7) % 12) ≠ -1 → (0 ≤ (88 + (4 * l2)) + 3 ∧ (88 + (4 * l2)) + 3 < 3598) ∧ (rI (99) ∧ rI ((σ 1 ((88 + (4 * l2)) + 3)) + 1)) ∧ (0 ≤ (88 + (4 * l2)) + 3 ∧ (88 + (4 * l2)) + 3 < 3598) ∧ (0 ≤ (34 + (9 * (sOwn (σ 1) (σ 1 (88 + (4 * l2))) (σ 1 ((88 + (4 * l2)) + 1)) ((σ 1 7) % 12)))) + 5 ∧ (34 + (9 * (sOwn (σ 1) (σ 1 (88 + (4 * l2))) (σ 1 ((88 + (4 * l2)) + 1)) ((σ 1 7) % 12)))) + 5 < 3598) ∧ (rI (9999) ∧ rI (((kup σ 1 ((88 + (4 * l2)) + 3) (min (99) ((σ 1 ((88 + (4 * l2)) + 3)) + 1))) 1 ((34 + (9 * (sOwn (σ 1) (σ 1 (88 + (4 * l2))) (σ 1 ((88 + (4 * l2)) + 1)) ((σ 1 7) % 12)))) + 5)) + 1)) ∧ (0 ≤ (34 + (9 * (sOwn (σ 1) (σ 1 (88 + (4 * l2))) (σ 1 ((88 + (4 * l2)) + 1)) ((σ 1 7) % 12)))) + 5 ∧ (34 + (9 * (sOwn (σ 1) (σ 1 (88 + (4 * l2))) (σ 1 ((88 + (4 * l2)) + 1)) ((σ 1 7) % 12)))) + 5 < 3598) ∧ E_X12_goesBy_7 G l1 (l2 + 1) (kup (kup σ 1 ((88 + (4 * l2)) + 3) (min (99) ((σ 1 ((88 + (4 * l2)) + 3)) + 1))) 1 ((34 + (9 * (sOwn (σ 1) (σ 1 (88 + (4 * l2))) (σ 1 ((88 + (4 * l2)) + 1)) ((σ 1 7) % 12)))) + 5) (min (9999) (((kup σ 1 ((88 + (4 * l2)) + 3) (min (99) ((σ 1 ((88 + (4 * l2)) + 3)) + 1))) 1 ((34 + (9 * (sOwn (σ 1) (σ 1 (88 + (4 * l2))) (σ 1 ((88 + (4 * l2)) + 1)) ((σ 1 7) % 12)))) + 5)) + 1))) Q) ∧ (sOwn (σ 1) (σ 1 (88 + (4 * l2))) (σ 1 ((88 + (4 * l2)) + 1)) ((σ 1 7) % 12) = -1 → E_X12_goesBy_7 G l1 (l2 + 1) σ Q))))) : E_X12_goesBy_7 G l1 l2 σ Q := by
  refine R_iload_n e_X12_goesBy_0.2.2.2.2.2.1 2 rfl ?_
  refine R_aload_n e_X12_goesBy_0.2.2.2.2.2.2.1 0 rfl ?_
  refine R_getA 12 0 1 e_X12_goesBy_0.2.2.2.2.2.2.2.1 f_X12_7 km_0 (fun _ _ => rfl) rm_0_0 (by decide) ?_
  refine R_iconst e_X12_goesBy_0.2.2.2.2.2.2.2.2.1 ?_
  refine R_iald 3598 e_X12_goesBy_0.2.2.2.2.2.2.2.2.2 kma_1 (by decide) ?_
  obtain ⟨q3, h⟩ := h
  obtain ⟨q4, h⟩ := h
  refine R_icmp_ge 91 e_X12_goesBy_1.1 (by decide) q3 q4 (fun q => ?_) (fun q => ?_)
  · replace h := h.1 q
    refine R_iconst e_X12_goesBy_5.2.2.2.2.2.1 ?_
    refine R_istore_n (ls2 := [(2, vI 0), (0, vA G 0), (1, vI l1)]) e_X12_goesBy_5.2.2.2.2.2.2.1 (by decide) rfl ?_
    refine R_ls (ls2 := [(0, vA G 0), (1, vI l1), (2, vI 0)]) [1, 2, 0] rfl ?_
    exact h
  · replace h := h.2 q
    refine R_iload_n e_X12_goesBy_1.2.1 2 rfl ?_
    refine R_callS (mc := 0) (ms := 0) (mc' := 0) (ms' := 0) (M' := M_X12_cropRow) (d' := 0) (as := [vI l2]) (st := []) 1 e_X12_goesBy_1.2.2.1 (kCSof m_X12_cropRow l_X12_334) (by decide) (by decide) rfl rfl (by show (0 : Nat) ≤ 8; decide) ?_
    refine S_X12_cropRow ?_
    refine R_eqs (st2 := [vI (88 + (4 * l2))]) (σ2 := σ) rfl rfl ?_
    refine R_istore_n (ls2 := [(3, vI (88 + (4 * l2))), (0, vA G 0), (1, vI l1), (2, vI l2)]) e_X12_goesBy_1.2.2.2.1 (by decide) rfl ?_
    refine R_aload_n e_X12_goesBy_1.2.2.2.2.1 1 rfl ?_
    refine R_aload_n e_X12_goesBy_1.2.2.2.2.2.1 1 rfl ?_
    refine R_getA 12 0 1 e_X12_goesBy_1.2.2.2.2.2.2.1 f_X12_7 km_0 (fun _ _ => rfl) rm_0_0 (by decide) ?_
    refine R_iload_n e_X12_goesBy_1.2.2.2.2.2.2.2.1 0 rfl ?_
    obtain ⟨q7, h⟩ := h
    refine R_iald 3598 e_X12_goesBy_1.2.2.2.2.2.2.2.2.1 kma_1 q7 ?_
    refine R_aload_n e_X12_goesBy_1.2.2.2.2.2.2.2.2.2 1 rfl ?_
    refine R_getA 12 0 1 e_X12_goesBy_2.1 f_X12_7 km_0 (fun _ _ => rfl) rm_0_0 (by decide) ?_
    refine R_iload_n e_X12_goesBy_2.2.1 0 rfl ?_
    refine R_iconst e_X12_goesBy_2.2.2.1 ?_
    refine R_iadd e_X12_goesBy_2.2.2.2.1 ?_
    obtain ⟨q8, h⟩ := h
    refine R_iald 3598 e_X12_goesBy_2.2.2.2.2.1 kma_1 q8 ?_
    refine R_aload_n e_X12_goesBy_2.2.2.2.2.2.1 1 rfl ?_
    refine R_callV (mc := 0) (ms := 0) (mc' := 0) (ms' := 0) (M' := M_X12_now) (d' := 0) (as := []) (st := [vI (σ 1 ((88 + (4 * l2)) + 1)), vI (σ 1 (88 + (4 * l2))), vA G 0]) 12 0 e_X12_goesBy_2.2.2.2.2.2.2.1 (kCVof m_X12_now l_X12_325) rfl (by decide) km_0 (by decide) (by decide) rfl rfl (by show (3 : Nat) ≤ 8; decide) ?_
    obtain ⟨q11, h⟩ := h
    refine S_X12_now ⟨q11, ?_⟩
    refine R_eqs (st2 := [vI ((σ 1 7) % 12), vI (σ 1 ((88 + (4 * l2)) + 1)), vI (σ 1 (88 + (4 * l2))), vA G 0]) (σ2 := σ) rfl rfl ?_
    obtain ⟨q14, h⟩ := h
    refine R_callV (mc := 0) (ms := 0) (mc' := 0) (ms' := 0) (M' := M_X12_ownerOf) (d' := 6) (as := [vI (σ 1 (88 + (4 * l2))), vI (σ 1 ((88 + (4 * l2)) + 1)), vI ((σ 1 7) % 12)]) (st := []) 12 3 e_X12_goesBy_2.2.2.2.2.2.2.2.1 (kCVof m_X12_ownerOf l_X12_312) rfl (by decide) km_0 (by decide) (by decide) rfl rfl (by show (0 : Nat) ≤ 8; decide) ?_
    refine Run.mono (P_X12_ownerOf q14) (fun r s e => ?_)
    obtain ⟨e1, e2⟩ := e
    refine R_eqs (st2 := [vI (sOwn (σ 1) (σ 1 (88 + (4 * l2))) (σ 1 ((88 + (4 * l2)) + 1)) ((σ 1 7) % 12))]) (σ2 := σ) (by rw [e1]; rfl) e2 ?_
    refine R_istore (ls2 := [(4, vI (sOwn (σ 1) (σ 1 (88 + (4 * l2))) (σ 1 ((88 + (4 * l2)) + 1)) ((σ 1 7) % 12))), (3, vI (88 + (4 * l2))), (0, vA G 0), (1, vI l1), (2, vI l2)]) e_X12_goesBy_2.2.2.2.2.2.2.2.2.1 (by decide) rfl ?_
    refine R_iload e_X12_goesBy_2.2.2.2.2.2.2.2.2.2 0 rfl ?_
    refine R_iconst e_X12_goesBy_3.1 ?_
    obtain ⟨q15, h⟩ := h
    refine R_icmp_ne 55 e_X12_goesBy_3.2.1 (by decide) q15 (by decide) (fun q => ?_) (fun q => ?_)
    · replace h := h.1 q
      refine R_aload_n e_X12_goesBy_3.2.2.2.1 2 rfl ?_
      refine R_getA 12 0 1 e_X12_goesBy_3.2.2.2.2.1 f_X12_7 km_0 (fun _ _ => rfl) rm_0_0 (by decide) ?_
      refine R_iload_n e_X12_goesBy_3.2.2.2.2.2.1 1 rfl ?_
      refine R_iconst e_X12_goesBy_3.2.2.2.2.2.2.1 ?_
      refine R_iadd e_X12_goesBy_3.2.2.2.2.2.2.2.1 ?_
      refine R_bipush e_X12_goesBy_3.2.2.2.2.2.2.2.2.1 (by decide) ?_
      refine R_aload_n e_X12_goesBy_3.2.2.2.2.2.2.2.2.2 2 rfl ?_
      refine R_getA 12 0 1 e_X12_goesBy_4.1 f_X12_7 km_0 (fun _ _ => rfl) rm_0_0 (by decide) ?_
      refine R_iload_n e_X12_goesBy_4.2.1 1 rfl ?_
      refine R_iconst e_X12_goesBy_4.2.2.1 ?_
      refine R_iadd e_X12_goesBy_4.2.2.2.1 ?_
      obtain ⟨q16, h⟩ := h
      refine R_iald 3598 e_X12_goesBy_4.2.2.2.2.1 kma_1 q16 ?_
      refine R_iconst e_X12_goesBy_4.2.2.2.2.2.1 ?_
      refine R_iadd e_X12_goesBy_4.2.2.2.2.2.2.1 ?_
      obtain ⟨q19, h⟩ := h
      refine R_callS (mc := 0) (ms := 0) (mc' := 0) (ms' := 0) (M' := M_J9_min_7cf53) (d' := 0) (as := [vI 99, vI ((σ 1 ((88 + (4 * l2)) + 3)) + 1)]) (st := [vI ((88 + (4 * l2)) + 3), vA G 1]) 2 e_X12_goesBy_4.2.2.2.2.2.2.2.1 (kCSof m_J9_min_7cf53 l_X12_148) (by decide) (by decide) rfl rfl (by show (2 : Nat) ≤ 8; decide) ?_
      refine Run.mono (P_J9_min_7cf53 q19) (fun r s e => ?_)
      obtain ⟨e1, e2⟩ := e
      refine R_eqs (st2 := [vI (min (99) ((σ 1 ((88 + (4 * l2)) + 3)) + 1)), vI ((88 + (4 * l2)) + 3), vA G 1]) (σ2 := σ) (by rw [e1]; rfl) e2 ?_
      obtain ⟨q20, h⟩ := h
      refine R_iast 3598 WM_ok e_X12_goesBy_4.2.2.2.2.2.2.2.2.1 kma_1 q20 ?_
      refine R_aload_n e_X12_goesBy_4.2.2.2.2.2.2.2.2.2 2 rfl ?_
      refine R_iload e_X12_goesBy_5.1 0 rfl ?_
      refine R_iconst e_X12_goesBy_5.2.1 ?_
      refine R_callV (mc := 0) (ms := 0) (mc' := 0) (ms' := 0) (M' := M_X12_earns) (d' := 2) (as := [vI (sOwn (σ 1) (σ 1 (88 + (4 * l2))) (σ 1 ((88 + (4 * l2)) + 1)) ((σ 1 7) % 12)), vI 1]) (st := []) 12 2 e_X12_goesBy_5.2.2.1 (kCVof m_X12_earns l_X12_373) rfl (by decide) km_0 (by decide) (by decide) rfl rfl (by show (0 : Nat) ≤ 8; decide) ?_
      obtain ⟨q29, h⟩ := h
      obtain ⟨q32, h⟩ := h
      obtain ⟨q33, h⟩ := h
      refine S_X12_earns ⟨q29, q32, q33, ?_⟩
      refine R_eqs (st2 := []) (σ2 := (kup (kup σ 1 ((88 + (4 * l2)) + 3) (min (99) ((σ 1 ((88 + (4 * l2)) + 3)) + 1))) 1 ((34 + (9 * (sOwn (σ 1) (σ 1 (88 + (4 * l2))) (σ 1 ((88 + (4 * l2)) + 1)) ((σ 1 7) % 12)))) + 5) (min (9999) (((kup σ 1 ((88 + (4 * l2)) + 3) (min (99) ((σ 1 ((88 + (4 * l2)) + 3)) + 1))) 1 ((34 + (9 * (sOwn (σ 1) (σ 1 (88 + (4 * l2))) (σ 1 ((88 + (4 * l2)) + 1)) ((σ 1 7) % 12)))) + 5)) + 1)))) rfl rfl ?_
      refine R_iinc (ls2 := [(2, vI (l2 + 1)), (4, vI (sOwn (σ 1) (σ 1 (88 + (4 * l2))) (σ 1 ((88 + (4 * l2)) + 1)) ((σ 1 7) % 12))), (3, vI (88 + (4 * l2))), (0, vA G 0), (1, vI l1)]) e_X12_goesBy_5.2.2.2.1 4 rfl (by decide) rfl ?_
      refine R_goto 7 e_X12_goesBy_5.2.2.2.2.1 (by decide) ?_
      refine R_ls (ls2 := [(0, vA G 0), (1, vI l1), (2, vI (l2 + 1))]) [3, 4, 0] rfl ?_
      exact h
    · replace h := h.2 q
      refine R_goto 85 e_X12_goesBy_3.2.2.1 (by decide) ?_
      refine R_iinc (ls2 := [(2, vI (l2 + 1)), (4, vI (sOwn (σ 1) (σ 1 (88 + (4 * l2))) (σ 1 ((88 + (4 * l2)) + 1)) ((σ 1 7) % 12))), (3, vI (88 + (4 * l2))), (0, vA G 0), (1, vI l1)]) e_X12_goesBy_5.2.2.2.1 4 rfl (by decide) rfl ?_
      refine R_goto 7 e_X12_goesBy_5.2.2.2.2.1 (by decide) ?_
      refine R_ls (ls2 := [(0, vA G 0), (1, vI l1), (2, vI (l2 + 1))]) [3, 4, 0] rfl ?_
      exact h
theorem S_X12_goesBy_93 {G : Kg} {σ : Kmem} {Q : Int → Kmem → Prop} {l1 l2 : Int}  (h : (rI l2) ∧ (rI (σ 1 4)) ∧ ((σ 1 4 ≤ l2 → Q l1 (kup σ 1 7 ((σ 1 7) + 1))) ∧ (l2 < σ 1 4 → Run G WM M_X12_goes 7 0 0 [vA G 0, vI l2] σ (fun r36 s37 => E_X12_goesBy_93 G l1 (l2 + 1) s37 Q)))) : E_X12_goesBy_93 G l1 l2 σ Q := by
  refine R_iload_n e_X12_goesBy_5.2.2.2.2.2.2.2.1 2 rfl ?_
  refine R_aload_n e_X12_goesBy_5.2.2.2.2.2.2.2.2.1 0 rfl ?_
  refine R_getA 12 0 1 e_X12_goesBy_5.2.2.2.2.2.2.2.2.2 f_X12_7 km_0 (fun _ _ => rfl) rm_0_0 (by decide) ?_
  refine R_iconst e_X12_goesBy_6.1 ?_
  refine R_iald 3598 e_X12_goesBy_6.2.1 kma_1 (by decide) ?_
  obtain ⟨q34, h⟩ := h
  obtain ⟨q35, h⟩ := h
  refine R_icmp_ge 114 e_X12_goesBy_6.2.2.1 (by decide) q34 q35 (fun q => ?_) (fun q => ?_)
  · replace h := h.1 q
    refine R_aload_n e_X12_goesBy_6.2.2.2.2.2.2.2.2.1 0 rfl ?_
    refine R_getA 12 0 1 e_X12_goesBy_6.2.2.2.2.2.2.2.2.2 f_X12_7 km_0 (fun _ _ => rfl) rm_0_0 (by decide) ?_
    refine R_bipush e_X12_goesBy_7.1 (by decide) ?_
    refine R_dup2 e_X12_goesBy_7.2.1 rfl rfl ?_
    refine R_iald 3598 e_X12_goesBy_7.2.2.1 kma_1 (by decide) ?_
    refine R_iconst e_X12_goesBy_7.2.2.2.1 ?_
    refine R_iadd e_X12_goesBy_7.2.2.2.2.1 ?_
    refine R_iast 3598 WM_ok e_X12_goesBy_7.2.2.2.2.2.1 kma_1 (by decide) ?_
    refine R_iload_n e_X12_goesBy_7.2.2.2.2.2.2.1 1 rfl ?_
    exact R_ireturn e_X12_goesBy_7.2.2.2.2.2.2.2 rfl h
  · replace h := h.2 q
    refine R_aload_n e_X12_goesBy_6.2.2.2.1 0 rfl ?_
    refine R_iload_n e_X12_goesBy_6.2.2.2.2.1 2 rfl ?_
    refine R_callV (mc := 0) (ms := 0) (mc' := 0) (ms' := 0) (M' := M_X12_goes) (d' := 7) (as := [vI l2]) (st := []) 12 1 e_X12_goesBy_6.2.2.2.2.2.1 (kCVof m_X12_goes l_X12_388) rfl (by decide) km_0 (by decide) (by decide) rfl rfl (by show (0 : Nat) ≤ 8; decide) ?_
    refine Run.mono h (fun r36 s37 h => ?_)
    refine R_eqs (st2 := []) rfl rfl ?_
    refine R_iinc (ls2 := [(2, vI (l2 + 1)), (0, vA G 0), (1, vI l1)]) e_X12_goesBy_6.2.2.2.2.2.2.1 2 rfl (by decide) rfl ?_
    refine R_goto 93 e_X12_goesBy_6.2.2.2.2.2.2.2.1 (by decide) ?_
    refine R_ls (ls2 := [(0, vA G 0), (1, vI l1), (2, vI (l2 + 1))]) [1, 2, 0] rfl ?_
    exact h
/-! KiteLandModel.walks(II)Z -/
theorem e_X12_walks_0 : decode cX12_walks 0 = .ok (.aload_n 0, 1) ∧ decode cX12_walks 1 = .ok (.iload_n 1, 1) ∧ decode cX12_walks 2 = .ok (.iconst 0, 1) ∧ decode cX12_walks 3 = .ok (.invokevirtual 268, 3) ∧ decode cX12_walks 6 = .ok (.iload_n 2, 1) ∧ decode cX12_walks 7 = .ok (.iconst 2, 1) ∧ decode cX12_walks 8 = .ok (.if_icmp .ne 7, 3) ∧ decode cX12_walks 11 = .ok (.iconst 1, 1) ∧ decode cX12_walks 12 = .ok (.goto 13, 3) ∧ decode cX12_walks 15 = .ok (.iload_n 2, 1) := by decide +kernel
theorem e_X12_walks_1 : decode cX12_walks 16 = .ok (.iconst 4, 1) ∧ decode cX12_walks 17 = .ok (.if_icmp .ne 7, 3) ∧ decode cX12_walks 20 = .ok (.iconst (-1), 1) ∧ decode cX12_walks 21 = .ok (.goto 4, 3) ∧ decode cX12_walks 24 = .ok (.iconst 0, 1) ∧ decode cX12_walks 25 = .ok (.iadd, 1) ∧ decode cX12_walks 26 = .ok (.istore_n 3, 1) ∧ decode cX12_walks 27 = .ok (.aload_n 0, 1) ∧ decode cX12_walks 28 = .ok (.iload_n 1, 1) ∧ decode cX12_walks 29 = .ok (.iconst 1, 1) := by decide +kernel
theorem e_X12_walks_2 : decode cX12_walks 30 = .ok (.invokevirtual 268, 3) ∧ decode cX12_walks 33 = .ok (.iload_n 2, 1) ∧ decode cX12_walks 34 = .ok (.iconst 3, 1) ∧ decode cX12_walks 35 = .ok (.if_icmp .ne 7, 3) ∧ decode cX12_walks 38 = .ok (.iconst 1, 1) ∧ decode cX12_walks 39 = .ok (.goto 13, 3) ∧ decode cX12_walks 42 = .ok (.iload_n 2, 1) ∧ decode cX12_walks 43 = .ok (.iconst 1, 1) ∧ decode cX12_walks 44 = .ok (.if_icmp .ne 7, 3) ∧ decode cX12_walks 47 = .ok (.iconst (-1), 1) := by decide +kernel
theorem e_X12_walks_3 : decode cX12_walks 48 = .ok (.goto 4, 3) ∧ decode cX12_walks 51 = .ok (.iconst 0, 1) ∧ decode cX12_walks 52 = .ok (.iadd, 1) ∧ decode cX12_walks 53 = .ok (.istore 4, 2) ∧ decode cX12_walks 55 = .ok (.aload_n 0, 1) ∧ decode cX12_walks 56 = .ok (.iload_n 3, 1) ∧ decode cX12_walks 57 = .ok (.iload 4, 2) ∧ decode cX12_walks 59 = .ok (.invokevirtual 355, 3) ∧ decode cX12_walks 62 = .ok (.ifCond .ne 5, 3) ∧ decode cX12_walks 65 = .ok (.iconst 0, 1) := by decide +kernel
theorem e_X12_walks_4 : decode cX12_walks 66 = .ok (.ireturn, 1) ∧ decode cX12_walks 67 = .ok (.aload_n 0, 1) ∧ decode cX12_walks 68 = .ok (.getfield 7, 3) ∧ decode cX12_walks 71 = .ok (.iload_n 1, 1) ∧ decode cX12_walks 72 = .ok (.invokestatic 265, 3) ∧ decode cX12_walks 75 = .ok (.iload_n 3, 1) ∧ decode cX12_walks 76 = .ok (.iastore, 1) ∧ decode cX12_walks 77 = .ok (.aload_n 0, 1) ∧ decode cX12_walks 78 = .ok (.getfield 7, 3) ∧ decode cX12_walks 81 = .ok (.iload_n 1, 1) := by decide +kernel
theorem e_X12_walks_5 : decode cX12_walks 82 = .ok (.invokestatic 265, 3) ∧ decode cX12_walks 85 = .ok (.iconst 1, 1) ∧ decode cX12_walks 86 = .ok (.iadd, 1) ∧ decode cX12_walks 87 = .ok (.iload 4, 2) ∧ decode cX12_walks 89 = .ok (.iastore, 1) ∧ decode cX12_walks 90 = .ok (.aload_n 0, 1) ∧ decode cX12_walks 91 = .ok (.getfield 7, 3) ∧ decode cX12_walks 94 = .ok (.iload_n 1, 1) ∧ decode cX12_walks 95 = .ok (.invokestatic 265, 3) ∧ decode cX12_walks 98 = .ok (.bipush 6, 2) := by decide +kernel
theorem e_X12_walks_6 : decode cX12_walks 100 = .ok (.iadd, 1) ∧ decode cX12_walks 101 = .ok (.dup2, 1) ∧ decode cX12_walks 102 = .ok (.iaload, 1) ∧ decode cX12_walks 103 = .ok (.iload_n 2, 1) ∧ decode cX12_walks 104 = .ok (.ifCond .ne 7, 3) ∧ decode cX12_walks 107 = .ok (.iconst 0, 1) ∧ decode cX12_walks 108 = .ok (.goto 4, 3) ∧ decode cX12_walks 111 = .ok (.iconst 1, 1) ∧ decode cX12_walks 112 = .ok (.iadd, 1) ∧ decode cX12_walks 113 = .ok (.iastore, 1) := by decide +kernel
theorem e_X12_walks_7 : decode cX12_walks 114 = .ok (.iconst 1, 1) ∧ decode cX12_walks 115 = .ok (.ireturn, 1) := by decide +kernel
abbrev E_X12_walks_52 (G : Kg) (l1 l2 l3 p0 p1 : Int) (σ : Kmem) (Q : Int → Kmem → Prop) : Prop := Ex G WM M_X12_walks 2 0 0 52 [(0, vA G 0), (1, vI l1), (2, vI l2), (3, vI l3)] [vI p0, vI p1] σ Q
theorem S_X12_walks {G : Kg} {σ : Kmem} {Q : Int → Kmem → Prop} {l1 l2 : Int}  (h : (0 ≤ (34 + (9 * l1)) + 0 ∧ (34 + (9 * l1)) + 0 < 3598) ∧ (rI l2) ∧ ((l2 ≠ 2 → ((l2 ≠ 4 → (0 ≤ (34 + (9 * l1)) + 1 ∧ (34 + (9 * l1)) + 1 < 3598) ∧ ((l2 ≠ 3 → ((l2 ≠ 1 → E_X12_walks_52 G l1 l2 ((σ 1 ((34 + (9 * l1)) + 0)) + 0) 0 (σ 1 ((34 + (9 * l1)) + 1)) σ Q) ∧ (l2 = 1 → E_X12_walks_52 G l1 l2 ((σ 1 ((34 + (9 * l1)) + 0)) + 0) (-1) (σ 1 ((34 + (9 * l1)) + 1)) σ Q))) ∧ (l2 = 3 → E_X12_walks_52 G l1 l2 ((σ 1 ((34 + (9 * l1)) + 0)) + 0) 1 (σ 1 ((34 + (9 * l1)) + 1)) σ Q))) ∧ (l2 = 4 → (0 ≤ (34 + (9 * l1)) + 1 ∧ (34 + (9 * l1)) + 1 < 3598) ∧ ((l2 ≠ 3 → ((l2 ≠ 1 → E_X12_walks_52 G l1 l2 ((σ 1 ((34 + (9 * l1)) + 0)) + (-1)) 0 (σ 1 ((34 + (9 * l1)) + 1)) σ Q) ∧ (l2 = 1 → E_X12_walks_52 G l1 l2 ((σ 1 ((34 + (9 * l1)) + 0)) + (-1)) (-1) (σ 1 ((34 + (9 * l1)) + 1)) σ Q))) ∧ (l2 = 3 → E_X12_walks_52 G l1 l2 ((σ 1 ((34 + (9 * l1)) + 0)) + (-1)) 1 (σ 1 ((34 + (9 * l1)) + 1)) σ Q))))) ∧ (l2 = 2 → (0 ≤ (34 + (9 * l1)) + 1 ∧ (34 + (9 * l1)) + 1 < 3598) ∧ ((l2 ≠ 3 → ((l2 ≠ 1 → E_X12_walks_52 G l1 l2 ((σ 1 ((34 + (9 * l1)) + 0)) + 1) 0 (σ 1 ((34 + (9 * l1)) + 1)) σ Q) ∧ (l2 = 1 → E_X12_walks_52 G l1 l2 ((σ 1 ((34 + (9 * l1)) + 0)) + 1) (-1) (σ 1 ((34 + (9 * l1)) + 1)) σ Q))) ∧ (l2 = 3 → E_X12_walks_52 G l1 l2 ((σ 1 ((34 + (9 * l1)) + 0)) + 1) 1 (σ 1 ((34 + (9 * l1)) + 1)) σ Q))))) : Run G WM M_X12_walks 2 0 0 [vA G 0, vI l1, vI l2] σ Q := by
  refine Run.of (by decide +kernel) (by show (3 : Nat) ≤ 5; decide) ?_
  show Ex G WM M_X12_walks 2 0 0 0 [(0, vA G 0), (1, vI l1), (2, vI l2)] [] σ Q
  refine R_aload_n e_X12_walks_0.1 0 rfl ?_
  refine R_iload_n e_X12_walks_0.2.1 1 rfl ?_
  refine R_iconst e_X12_walks_0.2.2.1 ?_
  refine R_callV (mc := 0) (ms := 0) (mc' := 0) (ms' := 0) (M' := M_X12_of) (d' := 1) (as := [vI l1, vI 0]) (st := []) 12 2 e_X12_walks_0.2.2.2.1 (kCVof m_X12_of l_X12_268) rfl (by decide) km_0 (by decide) (by decide) rfl rfl (by show (0 : Nat) ≤ 8; decide) ?_
  obtain ⟨q5, h⟩ := h
  refine S_X12_of ⟨q5, ?_⟩
  refine R_eqs (st2 := [vI (σ 1 ((34 + (9 * l1)) + 0))]) (σ2 := σ) rfl rfl ?_
  refine R_iload_n e_X12_walks_0.2.2.2.2.1 2 rfl ?_
  refine R_iconst e_X12_walks_0.2.2.2.2.2.1 ?_
  obtain ⟨q6, h⟩ := h
  refine R_icmp_ne 15 e_X12_walks_0.2.2.2.2.2.2.1 (by decide) q6 (by decide) (fun q => ?_) (fun q => ?_)
  · replace h := h.1 q
    refine R_iload_n e_X12_walks_0.2.2.2.2.2.2.2.2.2 2 rfl ?_
    refine R_iconst e_X12_walks_1.1 ?_
    refine R_icmp_ne 24 e_X12_walks_1.2.1 (by decide) q6 (by decide) (fun q => ?_) (fun q => ?_)
    · replace h := h.1 q
      refine R_iconst e_X12_walks_1.2.2.2.2.1 ?_
      refine R_iadd e_X12_walks_1.2.2.2.2.2.1 ?_
      refine R_istore_n (ls2 := [(3, vI ((σ 1 ((34 + (9 * l1)) + 0)) + 0)), (0, vA G 0), (1, vI l1), (2, vI l2)]) e_X12_walks_1.2.2.2.2.2.2.1 (by decide) rfl ?_
      refine R_aload_n e_X12_walks_1.2.2.2.2.2.2.2.1 1 rfl ?_
      refine R_iload_n e_X12_walks_1.2.2.2.2.2.2.2.2.1 2 rfl ?_
      refine R_iconst e_X12_walks_1.2.2.2.2.2.2.2.2.2 ?_
      refine R_callV (mc := 0) (ms := 0) (mc' := 0) (ms' := 0) (M' := M_X12_of) (d' := 1) (as := [vI l1, vI 1]) (st := []) 12 2 e_X12_walks_2.1 (kCVof m_X12_of l_X12_268) rfl (by decide) km_0 (by decide) (by decide) rfl rfl (by show (0 : Nat) ≤ 8; decide) ?_
      obtain ⟨q11, h⟩ := h
      refine S_X12_of ⟨q11, ?_⟩
      refine R_eqs (st2 := [vI (σ 1 ((34 + (9 * l1)) + 1))]) (σ2 := σ) rfl rfl ?_
      refine R_iload_n e_X12_walks_2.2.1 3 rfl ?_
      refine R_iconst e_X12_walks_2.2.2.1 ?_
      refine R_icmp_ne 42 e_X12_walks_2.2.2.2.1 (by decide) q6 (by decide) (fun q => ?_) (fun q => ?_)
      · replace h := h.1 q
        refine R_iload_n e_X12_walks_2.2.2.2.2.2.2.1 3 rfl ?_
        refine R_iconst e_X12_walks_2.2.2.2.2.2.2.2.1 ?_
        refine R_icmp_ne 51 e_X12_walks_2.2.2.2.2.2.2.2.2.1 (by decide) q6 (by decide) (fun q => ?_) (fun q => ?_)
        · replace h := h.1 q
          refine R_iconst e_X12_walks_3.2.1 ?_
          refine R_ls (ls2 := [(0, vA G 0), (1, vI l1), (2, vI l2), (3, vI ((σ 1 ((34 + (9 * l1)) + 0)) + 0))]) [1, 2, 3, 0] rfl ?_
          exact h
        · replace h := h.2 q
          refine R_iconst e_X12_walks_2.2.2.2.2.2.2.2.2.2 ?_
          refine R_goto 52 e_X12_walks_3.1 (by decide) ?_
          refine R_ls (ls2 := [(0, vA G 0), (1, vI l1), (2, vI l2), (3, vI ((σ 1 ((34 + (9 * l1)) + 0)) + 0))]) [1, 2, 3, 0] rfl ?_
          exact h
      · replace h := h.2 q
        refine R_iconst e_X12_walks_2.2.2.2.2.1 ?_
        refine R_goto 52 e_X12_walks_2.2.2.2.2.2.1 (by decide) ?_
        refine R_ls (ls2 := [(0, vA G 0), (1, vI l1), (2, vI l2), (3, vI ((σ 1 ((34 + (9 * l1)) + 0)) + 0))]) [1, 2, 3, 0] rfl ?_
        exact h
    · replace h := h.2 q
      refine R_iconst e_X12_walks_1.2.2.1 ?_
      refine R_goto 25 e_X12_walks_1.2.2.2.1 (by decide) ?_
      refine R_iadd e_X12_walks_1.2.2.2.2.2.1 ?_
      refine R_istore_n (ls2 := [(3, vI ((σ 1 ((34 + (9 * l1)) + 0)) + (-1))), (0, vA G 0), (1, vI l1), (2, vI l2)]) e_X12_walks_1.2.2.2.2.2.2.1 (by decide) rfl ?_
      refine R_aload_n e_X12_walks_1.2.2.2.2.2.2.2.1 1 rfl ?_
      refine R_iload_n e_X12_walks_1.2.2.2.2.2.2.2.2.1 2 rfl ?_
      refine R_iconst e_X12_walks_1.2.2.2.2.2.2.2.2.2 ?_
      refine R_callV (mc := 0) (ms := 0) (mc' := 0) (ms' := 0) (M' := M_X12_of) (d' := 1) (as := [vI l1, vI 1]) (st := []) 12 2 e_X12_walks_2.1 (kCVof m_X12_of l_X12_268) rfl (by decide) km_0 (by decide) (by decide) rfl rfl (by show (0 : Nat) ≤ 8; decide) ?_
      obtain ⟨q16, h⟩ := h
      refine S_X12_of ⟨q16, ?_⟩
      refine R_eqs (st2 := [vI (σ 1 ((34 + (9 * l1)) + 1))]) (σ2 := σ) rfl rfl ?_
      refine R_iload_n e_X12_walks_2.2.1 3 rfl ?_
      refine R_iconst e_X12_walks_2.2.2.1 ?_
      refine R_icmp_ne 42 e_X12_walks_2.2.2.2.1 (by decide) q6 (by decide) (fun q => ?_) (fun q => ?_)
      · replace h := h.1 q
        refine R_iload_n e_X12_walks_2.2.2.2.2.2.2.1 3 rfl ?_
        refine R_iconst e_X12_walks_2.2.2.2.2.2.2.2.1 ?_
        refine R_icmp_ne 51 e_X12_walks_2.2.2.2.2.2.2.2.2.1 (by decide) q6 (by decide) (fun q => ?_) (fun q => ?_)
        · replace h := h.1 q
          refine R_iconst e_X12_walks_3.2.1 ?_
          refine R_ls (ls2 := [(0, vA G 0), (1, vI l1), (2, vI l2), (3, vI ((σ 1 ((34 + (9 * l1)) + 0)) + (-1)))]) [1, 2, 3, 0] rfl ?_
          exact h
        · replace h := h.2 q
          refine R_iconst e_X12_walks_2.2.2.2.2.2.2.2.2.2 ?_
          refine R_goto 52 e_X12_walks_3.1 (by decide) ?_
          refine R_ls (ls2 := [(0, vA G 0), (1, vI l1), (2, vI l2), (3, vI ((σ 1 ((34 + (9 * l1)) + 0)) + (-1)))]) [1, 2, 3, 0] rfl ?_
          exact h
      · replace h := h.2 q
        refine R_iconst e_X12_walks_2.2.2.2.2.1 ?_
        refine R_goto 52 e_X12_walks_2.2.2.2.2.2.1 (by decide) ?_
        refine R_ls (ls2 := [(0, vA G 0), (1, vI l1), (2, vI l2), (3, vI ((σ 1 ((34 + (9 * l1)) + 0)) + (-1)))]) [1, 2, 3, 0] rfl ?_
        exact h
  · replace h := h.2 q
    refine R_iconst e_X12_walks_0.2.2.2.2.2.2.2.1 ?_
    refine R_goto 25 e_X12_walks_0.2.2.2.2.2.2.2.2.1 (by decide) ?_
    refine R_iadd e_X12_walks_1.2.2.2.2.2.1 ?_
    refine R_istore_n (ls2 := [(3, vI ((σ 1 ((34 + (9 * l1)) + 0)) + 1)), (0, vA G 0), (1, vI l1), (2, vI l2)]) e_X12_walks_1.2.2.2.2.2.2.1 (by decide) rfl ?_
    refine R_aload_n e_X12_walks_1.2.2.2.2.2.2.2.1 1 rfl ?_
    refine R_iload_n e_X12_walks_1.2.2.2.2.2.2.2.2.1 2 rfl ?_
    refine R_iconst e_X12_walks_1.2.2.2.2.2.2.2.2.2 ?_
    refine R_callV (mc := 0) (ms := 0) (mc' := 0) (ms' := 0) (M' := M_X12_of) (d' := 1) (as := [vI l1, vI 1]) (st := []) 12 2 e_X12_walks_2.1 (kCVof m_X12_of l_X12_268) rfl (by decide) km_0 (by decide) (by decide) rfl rfl (by show (0 : Nat) ≤ 8; decide) ?_
    obtain ⟨q21, h⟩ := h
    refine S_X12_of ⟨q21, ?_⟩
    refine R_eqs (st2 := [vI (σ 1 ((34 + (9 * l1)) + 1))]) (σ2 := σ) rfl rfl ?_
    refine R_iload_n e_X12_walks_2.2.1 3 rfl ?_
    refine R_iconst e_X12_walks_2.2.2.1 ?_
    refine R_icmp_ne 42 e_X12_walks_2.2.2.2.1 (by decide) q6 (by decide) (fun q => ?_) (fun q => ?_)
    · replace h := h.1 q
      refine R_iload_n e_X12_walks_2.2.2.2.2.2.2.1 3 rfl ?_
      refine R_iconst e_X12_walks_2.2.2.2.2.2.2.2.1 ?_
      refine R_icmp_ne 51 e_X12_walks_2.2.2.2.2.2.2.2.2.1 (by decide) q6 (by decide) (fun q => ?_) (fun q => ?_)
      · replace h := h.1 q
        refine R_iconst e_X12_walks_3.2.1 ?_
        refine R_ls (ls2 := [(0, vA G 0), (1, vI l1), (2, vI l2), (3, vI ((σ 1 ((34 + (9 * l1)) + 0)) + 1))]) [1, 2, 3, 0] rfl ?_
        exact h
      · replace h := h.2 q
        refine R_iconst e_X12_walks_2.2.2.2.2.2.2.2.2.2 ?_
        refine R_goto 52 e_X12_walks_3.1 (by decide) ?_
        refine R_ls (ls2 := [(0, vA G 0), (1, vI l1), (2, vI l2), (3, vI ((σ 1 ((34 + (9 * l1)) + 0)) + 1))]) [1, 2, 3, 0] rfl ?_
        exact h
    · replace h := h.2 q
      refine R_iconst e_X12_walks_2.2.2.2.2.1 ?_
      refine R_goto 52 e_X12_walks_2.2.2.2.2.2.1 (by decide) ?_
      refine R_ls (ls2 := [(0, vA G 0), (1, vI l1), (2, vI l2), (3, vI ((σ 1 ((34 + (9 * l1)) + 0)) + 1))]) [1, 2, 3, 0] rfl ?_
      exact h
theorem S_X12_walks_52 {G : Kg} {σ : Kmem} {Q : Int → Kmem → Prop} {l1 l2 l3 p0 p1 : Int}  (h : ((rI (l3) ∧ rI (p1 + p0)) ∧ wf (σ 1)) ∧ (((sFld (σ 1) (l3) (p1 + p0)) → (0 ≤ 34 + (9 * l1) ∧ 34 + (9 * l1) < 3598) ∧ (0 ≤ (34 + (9 * l1)) + 1 ∧ (34 + (9 * l1)) + 1 < 3598) ∧ (0 ≤ (34 + (9 * l1)) + 6 ∧ (34 + (9 * l1)) + 6 < 3598) ∧ (rI l2) ∧ ((l2 ≠ 0 → (0 ≤ (34 + (9 * l1)) + 6 ∧ (34 + (9 * l1)) + 6 < 3598) ∧ Q 1 (kup (kup (kup σ 1 (34 + (9 * l1)) l3) 1 ((34 + (9 * l1)) + 1) (p1 + p0)) 1 ((34 + (9 * l1)) + 6) (((kup (kup σ 1 (34 + (9 * l1)) l3) 1 ((34 + (9 * l1)) + 1) (p1 + p0)) 1 ((34 + (9 * l1)) + 6)) + 1))) ∧ (l2 = 0 → (0 ≤ (34 + (9 * l1)) + 6 ∧ (34 + (9 * l1)) + 6 < 3598) ∧ Q 1 (kup (kup (kup σ 1 (34 + (9 * l1)) l3) 1 ((34 + (9 * l1)) + 1) (p1 + p0)) 1 ((34 + (9 * l1)) + 6) (((kup (kup σ 1 (34 + (9 * l1)) l3) 1 ((34 + (9 * l1)) + 1) (p1 + p0)) 1 ((34 + (9 * l1)) + 6)) + 0))))) ∧ (¬ (sFld (σ 1) (l3) (p1 + p0)) → Q 0 σ))) : E_X12_walks_52 G l1 l2 l3 p0 p1 σ Q := by
  refine R_iadd e_X12_walks_3.2.2.1 ?_
  refine R_istore (ls2 := [(4, vI (p1 + p0)), (0, vA G 0), (1, vI l1), (2, vI l2), (3, vI l3)]) e_X12_walks_3.2.2.2.1 (by decide) rfl ?_
  refine R_aload_n e_X12_walks_3.2.2.2.2.1 1 rfl ?_
  refine R_iload_n e_X12_walks_3.2.2.2.2.2.1 4 rfl ?_
  refine R_iload e_X12_walks_3.2.2.2.2.2.2.1 0 rfl ?_
  obtain ⟨q24, h⟩ := h
  refine R_callV (mc := 0) (ms := 0) (mc' := 0) (ms' := 0) (M' := M_X12_isField) (d' := 0) (as := [vI l3, vI (p1 + p0)]) (st := []) 12 2 e_X12_walks_3.2.2.2.2.2.2.2.1 (kCVof m_X12_isField l_X12_355) rfl (by decide) km_0 (by decide) (by decide) rfl rfl (by show (0 : Nat) ≤ 8; decide) ?_
  refine Run.mono (P_X12_isField q24) (fun r s e => ?_)
  obtain ⟨e1, e2⟩ := e
  refine R_eqs (st2 := [vI (kb (sFld (σ 1) (l3) (p1 + p0)))]) (σ2 := σ) (by rw [e1]; rfl) e2 ?_
  refine R_if_ne 67 e_X12_walks_3.2.2.2.2.2.2.2.2.1 (by decide) (kb_r _) (fun q => ?_) (fun q => ?_)
  · replace h := h.1 (kb_t q)
    refine R_aload_n e_X12_walks_4.2.1 1 rfl ?_
    refine R_getA 12 0 1 e_X12_walks_4.2.2.1 f_X12_7 km_0 (fun _ _ => rfl) rm_0_0 (by decide) ?_
    refine R_iload_n e_X12_walks_4.2.2.2.1 2 rfl ?_
    refine R_callS (mc := 0) (ms := 0) (mc' := 0) (ms' := 0) (M' := M_X12_kiteRow) (d' := 0) (as := [vI l1]) (st := [vA G 1]) 1 e_X12_walks_4.2.2.2.2.1 (kCSof m_X12_kiteRow l_X12_265) (by decide) (by decide) rfl rfl (by show (1 : Nat) ≤ 8; decide) ?_
    refine S_X12_kiteRow ?_
    refine R_eqs (st2 := [vI (34 + (9 * l1)), vA G 1]) (σ2 := σ) rfl rfl ?_
    refine R_iload_n e_X12_walks_4.2.2.2.2.2.1 4 rfl ?_
    obtain ⟨q27, h⟩ := h
    refine R_iast 3598 WM_ok e_X12_walks_4.2.2.2.2.2.2.1 kma_1 q27 ?_
    refine R_aload_n e_X12_walks_4.2.2.2.2.2.2.2.1 1 rfl ?_
    refine R_getA 12 0 1 e_X12_walks_4.2.2.2.2.2.2.2.2.1 f_X12_7 km_0 (fun _ _ => rfl) rm_0_0 (by decide) ?_
    refine R_iload_n e_X12_walks_4.2.2.2.2.2.2.2.2.2 2 rfl ?_
    refine R_callS (mc := 0) (ms := 0) (mc' := 0) (ms' := 0) (M' := M_X12_kiteRow) (d' := 0) (as := [vI l1]) (st := [vA G 1]) 1 e_X12_walks_5.1 (kCSof m_X12_kiteRow l_X12_265) (by decide) (by decide) rfl rfl (by show (1 : Nat) ≤ 8; decide) ?_
    refine S_X12_kiteRow ?_
    refine R_eqs (st2 := [vI (34 + (9 * l1)), vA G 1]) (σ2 := (kup σ 1 (34 + (9 * l1)) l3)) rfl rfl ?_
    refine R_iconst e_X12_walks_5.2.1 ?_
    refine R_iadd e_X12_walks_5.2.2.1 ?_
    refine R_iload e_X12_walks_5.2.2.2.1 0 rfl ?_
    obtain ⟨q30, h⟩ := h
    refine R_iast 3598 WM_ok e_X12_walks_5.2.2.2.2.1 kma_1 q30 ?_
    refine R_aload_n e_X12_walks_5.2.2.2.2.2.1 1 rfl ?_
    refine R_getA 12 0 1 e_X12_walks_5.2.2.2.2.2.2.1 f_X12_7 km_0 (fun _ _ => rfl) rm_0_0 (by decide) ?_
    refine R_iload_n e_X12_walks_5.2.2.2.2.2.2.2.1 2 rfl ?_
    refine R_callS (mc := 0) (ms := 0) (mc' := 0) (ms' := 0) (M' := M_X12_kiteRow) (d' := 0) (as := [vI l1]) (st := [vA G 1]) 1 e_X12_walks_5.2.2.2.2.2.2.2.2.1 (kCSof m_X12_kiteRow l_X12_265) (by decide) (by decide) rfl rfl (by show (1 : Nat) ≤ 8; decide) ?_
    refine S_X12_kiteRow ?_
    refine R_eqs (st2 := [vI (34 + (9 * l1)), vA G 1]) (σ2 := (kup (kup σ 1 (34 + (9 * l1)) l3) 1 ((34 + (9 * l1)) + 1) (p1 + p0))) rfl rfl ?_
    refine R_bipush e_X12_walks_5.2.2.2.2.2.2.2.2.2 (by decide) ?_
    refine R_iadd e_X12_walks_6.1 ?_
    refine R_dup2 e_X12_walks_6.2.1 rfl rfl ?_
    obtain ⟨q33, h⟩ := h
    refine R_iald 3598 e_X12_walks_6.2.2.1 kma_1 q33 ?_
    refine R_iload_n e_X12_walks_6.2.2.2.1 3 rfl ?_
    obtain ⟨q34, h⟩ := h
    refine R_if_ne 111 e_X12_walks_6.2.2.2.2.1 (by decide) q34  (fun q => ?_) (fun q => ?_)
    · replace h := h.1 q
      refine R_iconst e_X12_walks_6.2.2.2.2.2.2.2.1 ?_
      refine R_iadd e_X12_walks_6.2.2.2.2.2.2.2.2.1 ?_
      obtain ⟨q35, h⟩ := h
      refine R_iast 3598 WM_ok e_X12_walks_6.2.2.2.2.2.2.2.2.2 kma_1 q35 ?_
      refine R_iconst e_X12_walks_7.1 ?_
      exact R_zreturn e_X12_walks_7.2 rfl (Or.inr rfl) h
    · replace h := h.2 q
      refine R_iconst e_X12_walks_6.2.2.2.2.2.1 ?_
      refine R_goto 112 e_X12_walks_6.2.2.2.2.2.2.1 (by decide) ?_
      refine R_iadd e_X12_walks_6.2.2.2.2.2.2.2.2.1 ?_
      obtain ⟨q36, h⟩ := h
      refine R_iast 3598 WM_ok e_X12_walks_6.2.2.2.2.2.2.2.2.2 kma_1 q36 ?_
      refine R_iconst e_X12_walks_7.1 ?_
      exact R_zreturn e_X12_walks_7.2 rfl (Or.inr rfl) h
  · replace h := h.2 (kb_f q)
    refine R_iconst e_X12_walks_3.2.2.2.2.2.2.2.2.2 ?_
    exact R_zreturn e_X12_walks_4.1 rfl (Or.inl rfl) h
/-! KiteLandModel.keeps(I)V -/
theorem e_X12_keeps_0 : decode cX12_keeps 0 = .ok (.iconst 0, 1) ∧ decode cX12_keeps 1 = .ok (.istore_n 2, 1) ∧ decode cX12_keeps 2 = .ok (.iload_n 2, 1) ∧ decode cX12_keeps 3 = .ok (.sipush 150, 3) ∧ decode cX12_keeps 6 = .ok (.if_icmp .ge 23, 3) ∧ decode cX12_keeps 9 = .ok (.aload_n 0, 1) ∧ decode cX12_keeps 10 = .ok (.getfield 7, 3) ∧ decode cX12_keeps 13 = .ok (.iload_n 1, 1) ∧ decode cX12_keeps 14 = .ok (.iload_n 2, 1) ∧ decode cX12_keeps 15 = .ok (.iadd, 1) := by decide +kernel
theorem e_X12_keeps_1 : decode cX12_keeps 16 = .ok (.aload_n 0, 1) ∧ decode cX12_keeps 17 = .ok (.getfield 7, 3) ∧ decode cX12_keeps 20 = .ok (.iload_n 2, 1) ∧ decode cX12_keeps 21 = .ok (.iaload, 1) ∧ decode cX12_keeps 22 = .ok (.iastore, 1) ∧ decode cX12_keeps 23 = .ok (.iinc 2 1, 3) ∧ decode cX12_keeps 26 = .ok (.goto (-24), 3) ∧ decode cX12_keeps 29 = .ok (.return_, 1) := by decide +kernel
abbrev E_X12_keeps_2 (G : Kg) (l1 l2 : Int) (σ : Kmem) (Q : Int → Kmem → Prop) : Prop := Ex G WM M_X12_keeps 0 0 0 2 [(0, vA G 0), (1, vI l1), (2, vI l2)] [] σ Q
theorem S_X12_keeps {G : Kg} {σ : Kmem} {Q : Int → Kmem → Prop} {l1 : Int}  (h : E_X12_keeps_2 G l1 0 σ Q) : Run G WM M_X12_keeps 0 0 0 [vA G 0, vI l1] σ Q := by
  refine Run.of (by decide +kernel) (by show (2 : Nat) ≤ 3; decide) ?_
  show Ex G WM M_X12_keeps 0 0 0 0 [(0, vA G 0), (1, vI l1)] [] σ Q
  refine R_iconst e_X12_keeps_0.1 ?_
  refine R_istore_n (ls2 := [(2, vI 0), (0, vA G 0), (1, vI l1)]) e_X12_keeps_0.2.1 (by decide) rfl ?_
  refine R_ls (ls2 := [(0, vA G 0), (1, vI l1), (2, vI 0)]) [1, 2, 0] rfl ?_
  exact h
theorem S_X12_keeps_2 {G : Kg} {σ : Kmem} {Q : Int → Kmem → Prop} {l1 l2 : Int}  (h : (rI l2) ∧ ((150 ≤ l2 → Q 0 σ) ∧ (l2 < 150 → (0 ≤ l2 ∧ l2 < 3598) ∧ (0 ≤ l1 + l2 ∧ l1 + l2 < 3598) ∧ E_X12_keeps_2 G l1 (l2 + 1) (kup σ 1 (l1 + l2) (σ 1 l2)) Q))) : E_X12_keeps_2 G l1 l2 σ Q := by
  refine R_iload_n e_X12_keeps_0.2.2.1 2 rfl ?_
  refine R_sipush e_X12_keeps_0.2.2.2.1 (by decide) ?_
  obtain ⟨q1, h⟩ := h
  refine R_icmp_ge 29 e_X12_keeps_0.2.2.2.2.1 (by decide) q1 (by decide) (fun q => ?_) (fun q => ?_)
  · replace h := h.1 q
    exact R_return e_X12_keeps_1.2.2.2.2.2.2.2 rfl h
  · replace h := h.2 q
    refine R_aload_n e_X12_keeps_0.2.2.2.2.2.1 0 rfl ?_
    refine R_getA 12 0 1 e_X12_keeps_0.2.2.2.2.2.2.1 f_X12_7 km_0 (fun _ _ => rfl) rm_0_0 (by decide) ?_
    refine R_iload_n e_X12_keeps_0.2.2.2.2.2.2.2.1 1 rfl ?_
    refine R_iload_n e_X12_keeps_0.2.2.2.2.2.2.2.2.1 2 rfl ?_
    refine R_iadd e_X12_keeps_0.2.2.2.2.2.2.2.2.2 ?_
    refine R_aload_n e_X12_keeps_1.1 0 rfl ?_
    refine R_getA 12 0 1 e_X12_keeps_1.2.1 f_X12_7 km_0 (fun _ _ => rfl) rm_0_0 (by decide) ?_
    refine R_iload_n e_X12_keeps_1.2.2.1 2 rfl ?_
    obtain ⟨q2, h⟩ := h
    refine R_iald 3598 e_X12_keeps_1.2.2.2.1 kma_1 q2 ?_
    obtain ⟨q3, h⟩ := h
    refine R_iast 3598 WM_ok e_X12_keeps_1.2.2.2.2.1 kma_1 q3 ?_
    refine R_iinc (ls2 := [(2, vI (l2 + 1)), (0, vA G 0), (1, vI l1)]) e_X12_keeps_1.2.2.2.2.2.1 2 rfl (by decide) rfl ?_
    refine R_goto 2 e_X12_keeps_1.2.2.2.2.2.2.1 (by decide) ?_
    refine R_ls (ls2 := [(0, vA G 0), (1, vI l1), (2, vI (l2 + 1))]) [1, 2, 0] rfl ?_
    exact h
/-! KiteLandModel.restores(I)V -/
theorem e_X12_restores_0 : decode cX12_restores 0 = .ok (.iconst 0, 1) ∧ decode cX12_restores 1 = .ok (.istore_n 2, 1) ∧ decode cX12_restores 2 = .ok (.iload_n 2, 1) ∧ decode cX12_restores 3 = .ok (.sipush 150, 3) ∧ decode cX12_restores 6 = .ok (.if_icmp .ge 23, 3) ∧ decode cX12_restores 9 = .ok (.aload_n 0, 1) ∧ decode cX12_restores 10 = .ok (.getfield 7, 3) ∧ decode cX12_restores 13 = .ok (.iload_n 2, 1) ∧ decode cX12_restores 14 = .ok (.aload_n 0, 1) ∧ decode cX12_restores 15 = .ok (.getfield 7, 3) := by decide +kernel
theorem e_X12_restores_1 : decode cX12_restores 18 = .ok (.iload_n 1, 1) ∧ decode cX12_restores 19 = .ok (.iload_n 2, 1) ∧ decode cX12_restores 20 = .ok (.iadd, 1) ∧ decode cX12_restores 21 = .ok (.iaload, 1) ∧ decode cX12_restores 22 = .ok (.iastore, 1) ∧ decode cX12_restores 23 = .ok (.iinc 2 1, 3) ∧ decode cX12_restores 26 = .ok (.goto (-24), 3) ∧ decode cX12_restores 29 = .ok (.return_, 1) := by decide +kernel
abbrev E_X12_restores_2 (G : Kg) (l1 l2 : Int) (σ : Kmem) (Q : Int → Kmem → Prop) : Prop := Ex G WM M_X12_restores 0 0 0 2 [(0, vA G 0), (1, vI l1), (2, vI l2)] [] σ Q
theorem S_X12_restores {G : Kg} {σ : Kmem} {Q : Int → Kmem → Prop} {l1 : Int}  (h : E_X12_restores_2 G l1 0 σ Q) : Run G WM M_X12_restores 0 0 0 [vA G 0, vI l1] σ Q := by
  refine Run.of (by decide +kernel) (by show (2 : Nat) ≤ 3; decide) ?_
  show Ex G WM M_X12_restores 0 0 0 0 [(0, vA G 0), (1, vI l1)] [] σ Q
  refine R_iconst e_X12_restores_0.1 ?_
  refine R_istore_n (ls2 := [(2, vI 0), (0, vA G 0), (1, vI l1)]) e_X12_restores_0.2.1 (by decide) rfl ?_
  refine R_ls (ls2 := [(0, vA G 0), (1, vI l1), (2, vI 0)]) [1, 2, 0] rfl ?_
  exact h
theorem S_X12_restores_2 {G : Kg} {σ : Kmem} {Q : Int → Kmem → Prop} {l1 l2 : Int}  (h : (rI l2) ∧ ((150 ≤ l2 → Q 0 σ) ∧ (l2 < 150 → (0 ≤ l1 + l2 ∧ l1 + l2 < 3598) ∧ (0 ≤ l2 ∧ l2 < 3598) ∧ E_X12_restores_2 G l1 (l2 + 1) (kup σ 1 l2 (σ 1 (l1 + l2))) Q))) : E_X12_restores_2 G l1 l2 σ Q := by
  refine R_iload_n e_X12_restores_0.2.2.1 2 rfl ?_
  refine R_sipush e_X12_restores_0.2.2.2.1 (by decide) ?_
  obtain ⟨q1, h⟩ := h
  refine R_icmp_ge 29 e_X12_restores_0.2.2.2.2.1 (by decide) q1 (by decide) (fun q => ?_) (fun q => ?_)
  · replace h := h.1 q
    exact R_return e_X12_restores_1.2.2.2.2.2.2.2 rfl h
  · replace h := h.2 q
    refine R_aload_n e_X12_restores_0.2.2.2.2.2.1 0 rfl ?_
    refine R_getA 12 0 1 e_X12_restores_0.2.2.2.2.2.2.1 f_X12_7 km_0 (fun _ _ => rfl) rm_0_0 (by decide) ?_
    refine R_iload_n e_X12_restores_0.2.2.2.2.2.2.2.1 2 rfl ?_
    refine R_aload_n e_X12_restores_0.2.2.2.2.2.2.2.2.1 0 rfl ?_
    refine R_getA 12 0 1 e_X12_restores_0.2.2.2.2.2.2.2.2.2 f_X12_7 km_0 (fun _ _ => rfl) rm_0_0 (by decide) ?_
    refine R_iload_n e_X12_restores_1.1 1 rfl ?_
    refine R_iload_n e_X12_restores_1.2.1 2 rfl ?_
    refine R_iadd e_X12_restores_1.2.2.1 ?_
    obtain ⟨q2, h⟩ := h
    refine R_iald 3598 e_X12_restores_1.2.2.2.1 kma_1 q2 ?_
    obtain ⟨q3, h⟩ := h
    refine R_iast 3598 WM_ok e_X12_restores_1.2.2.2.2.1 kma_1 q3 ?_
    refine R_iinc (ls2 := [(2, vI (l2 + 1)), (0, vA G 0), (1, vI l1)]) e_X12_restores_1.2.2.2.2.2.1 2 rfl (by decide) rfl ?_
    refine R_goto 2 e_X12_restores_1.2.2.2.2.2.2.1 (by decide) ?_
    refine R_ls (ls2 := [(0, vA G 0), (1, vI l1), (2, vI (l2 + 1))]) [1, 2, 0] rfl ?_
    exact h
/-! KiteLandModel.turnsCut(IZ)Z -/
theorem e_X12_turnsCut_0 : decode cX12_turnsCut 0 = .ok (.aload_n 0, 1) ∧ decode cX12_turnsCut 1 = .ok (.iload_n 1, 1) ∧ decode cX12_turnsCut 2 = .ok (.invokevirtual 271, 3) ∧ decode cX12_turnsCut 5 = .ok (.iload_n 2, 1) ∧ decode cX12_turnsCut 6 = .ok (.if_icmp .ne 5, 3) ∧ decode cX12_turnsCut 9 = .ok (.iconst 0, 1) ∧ decode cX12_turnsCut 10 = .ok (.ireturn, 1) ∧ decode cX12_turnsCut 11 = .ok (.aload_n 0, 1) ∧ decode cX12_turnsCut 12 = .ok (.getfield 7, 3) ∧ decode cX12_turnsCut 15 = .ok (.iload_n 1, 1) := by decide +kernel
theorem e_X12_turnsCut_1 : decode cX12_turnsCut 16 = .ok (.invokestatic 265, 3) ∧ decode cX12_turnsCut 19 = .ok (.bipush 8, 2) ∧ decode cX12_turnsCut 21 = .ok (.iadd, 1) ∧ decode cX12_turnsCut 22 = .ok (.iload_n 2, 1) ∧ decode cX12_turnsCut 23 = .ok (.ifCond .eq 7, 3) ∧ decode cX12_turnsCut 26 = .ok (.iconst 1, 1) ∧ decode cX12_turnsCut 27 = .ok (.goto 4, 3) ∧ decode cX12_turnsCut 30 = .ok (.iconst 0, 1) ∧ decode cX12_turnsCut 31 = .ok (.iastore, 1) ∧ decode cX12_turnsCut 32 = .ok (.iconst 1, 1) := by decide +kernel
theorem e_X12_turnsCut_2 : decode cX12_turnsCut 33 = .ok (.ireturn, 1) := by decide +kernel
theorem S_X12_turnsCut {G : Kg} {σ : Kmem} {Q : Int → Kmem → Prop} {l1 l2 : Int}  (h : (wf (σ 1) ∧ sKt (σ 1) (l1)) ∧ (rI l2) ∧ ((kb ((σ 1) (34 + 9 * (l1) + 8) = 1) ≠ l2 → ((l2 = 0 → (0 ≤ (34 + (9 * l1)) + 8 ∧ (34 + (9 * l1)) + 8 < 3598) ∧ Q 1 (kup σ 1 ((34 + (9 * l1)) + 8) 0)) ∧ (l2 ≠ 0 → (0 ≤ (34 + (9 * l1)) + 8 ∧ (34 + (9 * l1)) + 8 < 3598) ∧ Q 1 (kup σ 1 ((34 + (9 * l1)) + 8) 1)))) ∧ (kb ((σ 1) (34 + 9 * (l1) + 8) = 1) = l2 → Q 0 σ))) : Run G WM M_X12_turnsCut 3 0 0 [vA G 0, vI l1, vI l2] σ Q := by
  refine Run.of (by decide +kernel) (by show (3 : Nat) ≤ 3; decide) ?_
  show Ex G WM M_X12_turnsCut 3 0 0 0 [(0, vA G 0), (1, vI l1), (2, vI l2)] [] σ Q
  refine R_aload_n e_X12_turnsCut_0.1 0 rfl ?_
  refine R_iload_n e_X12_turnsCut_0.2.1 1 rfl ?_
  obtain ⟨q3, h⟩ := h
  refine R_callV (mc := 0) (ms := 0) (mc' := 0) (ms' := 0) (M' := M_X12_isCut) (d' := 2) (as := [vI l1]) (st := []) 12 1 e_X12_turnsCut_0.2.2.1 (kCVof m_X12_isCut l_X12_271) rfl (by decide) km_0 (by decide) (by decide) rfl rfl (by show (0 : Nat) ≤ 8; decide) ?_
  refine Run.mono (P_X12_isCut q3) (fun r s e => ?_)
  obtain ⟨e1, e2⟩ := e
  refine R_eqs (st2 := [vI (kb ((σ 1) (34 + 9 * (l1) + 8) = 1))]) (σ2 := σ) (by rw [e1]; rfl) e2 ?_
  refine R_iload_n e_X12_turnsCut_0.2.2.2.1 2 rfl ?_
  obtain ⟨q4, h⟩ := h
  refine R_icmp_ne 11 e_X12_turnsCut_0.2.2.2.2.1 (by decide) (kb_r _) q4 (fun q => ?_) (fun q => ?_)
  · replace h := h.1 q
    refine R_aload_n e_X12_turnsCut_0.2.2.2.2.2.2.2.1 0 rfl ?_
    refine R_getA 12 0 1 e_X12_turnsCut_0.2.2.2.2.2.2.2.2.1 f_X12_7 km_0 (fun _ _ => rfl) rm_0_0 (by decide) ?_
    refine R_iload_n e_X12_turnsCut_0.2.2.2.2.2.2.2.2.2 1 rfl ?_
    refine R_callS (mc := 0) (ms := 0) (mc' := 0) (ms' := 0) (M' := M_X12_kiteRow) (d' := 0) (as := [vI l1]) (st := [vA G 1]) 1 e_X12_turnsCut_1.1 (kCSof m_X12_kiteRow l_X12_265) (by decide) (by decide) rfl rfl (by show (1 : Nat) ≤ 8; decide) ?_
    refine S_X12_kiteRow ?_
    refine R_eqs (st2 := [vI (34 + (9 * l1)), vA G 1]) (σ2 := σ) rfl rfl ?_
    refine R_bipush e_X12_turnsCut_1.2.1 (by decide) ?_
    refine R_iadd e_X12_turnsCut_1.2.2.1 ?_
    refine R_iload_n e_X12_turnsCut_1.2.2.2.1 2 rfl ?_
    refine R_if_eq 30 e_X12_turnsCut_1.2.2.2.2.1 (by decide) q4  (fun q => ?_) (fun q => ?_)
    · replace h := h.1 q
      refine R_iconst e_X12_turnsCut_1.2.2.2.2.2.2.2.1 ?_
      obtain ⟨q7, h⟩ := h
      refine R_iast 3598 WM_ok e_X12_turnsCut_1.2.2.2.2.2.2.2.2.1 kma_1 q7 ?_
      refine R_iconst e_X12_turnsCut_1.2.2.2.2.2.2.2.2.2 ?_
      exact R_zreturn e_X12_turnsCut_2 rfl (Or.inr rfl) h
    · replace h := h.2 q
      refine R_iconst e_X12_turnsCut_1.2.2.2.2.2.1 ?_
      refine R_goto 31 e_X12_turnsCut_1.2.2.2.2.2.2.1 (by decide) ?_
      obtain ⟨q8, h⟩ := h
      refine R_iast 3598 WM_ok e_X12_turnsCut_1.2.2.2.2.2.2.2.2.1 kma_1 q8 ?_
      refine R_iconst e_X12_turnsCut_1.2.2.2.2.2.2.2.2.2 ?_
      exact R_zreturn e_X12_turnsCut_2 rfl (Or.inr rfl) h
  · replace h := h.2 q
    refine R_iconst e_X12_turnsCut_0.2.2.2.2.2.1 ?_
    exact R_zreturn e_X12_turnsCut_0.2.2.2.2.2.2.1 rfl (Or.inl rfl) h
/-! KiteLandModel.hoursTill(III)I -/
theorem e_X12_hoursTill_0 : decode cX12_hoursTill 0 = .ok (.aload_n 0, 1) ∧ decode cX12_hoursTill 1 = .ok (.sipush 3084, 3) ∧ decode cX12_hoursTill 4 = .ok (.invokevirtual 419, 3) ∧ decode cX12_hoursTill 7 = .ok (.iconst 0, 1) ∧ decode cX12_hoursTill 8 = .ok (.istore 4, 2) ∧ decode cX12_hoursTill 10 = .ok (.iload 4, 2) ∧ decode cX12_hoursTill 12 = .ok (.iload_n 3, 1) ∧ decode cX12_hoursTill 13 = .ok (.if_icmp .gt 35, 3) ∧ decode cX12_hoursTill 16 = .ok (.aload_n 0, 1) ∧ decode cX12_hoursTill 17 = .ok (.aload_n 0, 1) := by decide +kernel
theorem e_X12_hoursTill_1 : decode cX12_hoursTill 18 = .ok (.iload_n 1, 1) ∧ decode cX12_hoursTill 19 = .ok (.ifCond .ne 7, 3) ∧ decode cX12_hoursTill 22 = .ok (.iconst 2, 1) ∧ decode cX12_hoursTill 23 = .ok (.goto 4, 3) ∧ decode cX12_hoursTill 26 = .ok (.iconst 1, 1) ∧ decode cX12_hoursTill 27 = .ok (.invokevirtual 337, 3) ∧ decode cX12_hoursTill 30 = .ok (.iload_n 2, 1) ∧ decode cX12_hoursTill 31 = .ok (.invokevirtual 299, 3) ∧ decode cX12_hoursTill 34 = .ok (.ifCond .ne 14, 3) ∧ decode cX12_hoursTill 37 = .ok (.aload_n 0, 1) := by decide +kernel
theorem e_X12_hoursTill_2 : decode cX12_hoursTill 38 = .ok (.invokevirtual 397, 3) ∧ decode cX12_hoursTill 41 = .ok (.pop, 1) ∧ decode cX12_hoursTill 42 = .ok (.iinc 4 1, 3) ∧ decode cX12_hoursTill 45 = .ok (.goto (-35), 3) ∧ decode cX12_hoursTill 48 = .ok (.aload_n 0, 1) ∧ decode cX12_hoursTill 49 = .ok (.sipush 3084, 3) ∧ decode cX12_hoursTill 52 = .ok (.invokevirtual 422, 3) ∧ decode cX12_hoursTill 55 = .ok (.iload 4, 2) ∧ decode cX12_hoursTill 57 = .ok (.iload_n 3, 1) ∧ decode cX12_hoursTill 58 = .ok (.if_icmp .le 7, 3) := by decide +kernel
theorem e_X12_hoursTill_3 : decode cX12_hoursTill 61 = .ok (.iconst (-1), 1) ∧ decode cX12_hoursTill 62 = .ok (.goto 5, 3) ∧ decode cX12_hoursTill 65 = .ok (.iload 4, 2) ∧ decode cX12_hoursTill 67 = .ok (.ireturn, 1) := by decide +kernel
abbrev E_X12_hoursTill_10 (G : Kg) (l1 l2 l3 l4 : Int) (σ : Kmem) (Q : Int → Kmem → Prop) : Prop := Ex G WM M_X12_hoursTill 9 0 0 10 [(0, vA G 0), (1, vI l1), (2, vI l2), (3, vI l3), (4, vI l4)] [] σ Q
theorem S_X12_hoursTill {G : Kg} {σ : Kmem} {Q : Int → Kmem → Prop} {l1 l2 l3 : Int}  (h : Run G WM M_X12_keeps 0 0 0 [vA G 0, vI 3084] σ (fun r1 s2 => E_X12_hoursTill_10 G l1 l2 l3 0 s2 Q)) : Run G WM M_X12_hoursTill 9 0 0 [vA G 0, vI l1, vI l2, vI l3] σ Q := by
  refine Run.of (by decide +kernel) (by show (4 : Nat) ≤ 5; decide) ?_
  show Ex G WM M_X12_hoursTill 9 0 0 0 [(0, vA G 0), (1, vI l1), (2, vI l2), (3, vI l3)] [] σ Q
  refine R_aload_n e_X12_hoursTill_0.1 0 rfl ?_
  refine R_sipush e_X12_hoursTill_0.2.1 (by decide) ?_
  refine R_callV (mc := 0) (ms := 0) (mc' := 0) (ms' := 0) (M' := M_X12_keeps) (d' := 0) (as := [vI 3084]) (st := []) 12 1 e_X12_hoursTill_0.2.2.1 (kCVof m_X12_keeps l_X12_419) rfl (by decide) km_0 (by decide) (by decide) rfl rfl (by show (0 : Nat) ≤ 8; decide) ?_
  refine Run.mono h (fun r1 s2 h => ?_)
  refine R_eqs (st2 := []) rfl rfl ?_
  refine R_iconst e_X12_hoursTill_0.2.2.2.1 ?_
  refine R_istore (ls2 := [(4, vI 0), (0, vA G 0), (1, vI l1), (2, vI l2), (3, vI l3)]) e_X12_hoursTill_0.2.2.2.2.1 (by decide) rfl ?_
  refine R_ls (ls2 := [(0, vA G 0), (1, vI l1), (2, vI l2), (3, vI l3), (4, vI 0)]) [1, 2, 3, 4, 0] rfl ?_
  exact h
theorem S_X12_hoursTill_10 {G : Kg} {σ : Kmem} {Q : Int → Kmem → Prop} {l1 l2 l3 l4 : Int}  (h : (rI l4) ∧ (rI l3) ∧ ((l3 < l4 → Run G WM M_X12_restores 0 0 0 [vA G 0, vI 3084] σ (fun r5 s6 => ((l4 ≤ l3 → Q l4 s6) ∧ (l3 < l4 → Q (-1) s6)))) ∧ (l4 ≤ l3 → (rI l1) ∧ ((l1 ≠ 0 → (wf (σ 1) ∧ (0 : Int) ≤ 1 ∧ (1 : Int) ≤ 2) ∧ (((0 : Int) ≤ (sSet (σ 1) (1) : Int) ∧ ((sSet (σ 1) (1) : Int) : Int) < 65536) ∧ (0 : Int) ≤ l2 ∧ (l2 : Int) < 31) ∧ (((sIn ((sSet (σ 1) (1) : Int)) (l2)) → Run G WM M_X12_restores 0 0 0 [vA G 0, vI 3084] σ (fun r14 s15 => ((l4 ≤ l3 → Q l4 s15) ∧ (l3 < l4 → Q (-1) s15)))) ∧ (¬ (sIn ((sSet (σ 1) (1) : Int)) (l2)) → Run G WM M_X12_goesBy 8 0 0 [vA G 0] σ (fun r16 s17 => E_X12_hoursTill_10 G l1 l2 l3 (l4 + 1) s17 Q)))) ∧ (l1 = 0 → (wf (σ 1) ∧ (0 : Int) ≤ 2 ∧ (2 : Int) ≤ 2) ∧ (((0 : Int) ≤ (sSet (σ 1) (2) : Int) ∧ ((sSet (σ 1) (2) : Int) : Int) < 65536) ∧ (0 : Int) ≤ l2 ∧ (l2 : Int) < 31) ∧ (((sIn ((sSet (σ 1) (2) : Int)) (l2)) → Run G WM M_X12_restores 0 0 0 [vA G 0, vI 3084] σ (fun r24 s25 => ((l4 ≤ l3 → Q l4 s25) ∧ (l3 < l4 → Q (-1) s25)))) ∧ (¬ (sIn ((sSet (σ 1) (2) : Int)) (l2)) → Run G WM M_X12_goesBy 8 0 0 [vA G 0] σ (fun r26 s27 => E_X12_hoursTill_10 G l1 l2 l3 (l4 + 1) s27 Q)))))))) : E_X12_hoursTill_10 G l1 l2 l3 l4 σ Q := by
  refine R_iload e_X12_hoursTill_0.2.2.2.2.2.1 4 rfl ?_
  refine R_iload_n e_X12_hoursTill_0.2.2.2.2.2.2.1 3 rfl ?_
  obtain ⟨q3, h⟩ := h
  obtain ⟨q4, h⟩ := h
  refine R_icmp_gt 48 e_X12_hoursTill_0.2.2.2.2.2.2.2.1 (by decide) q3 q4 (fun q => ?_) (fun q => ?_)
  · replace h := h.1 q
    refine R_aload_n e_X12_hoursTill_2.2.2.2.2.1 0 rfl ?_
    refine R_sipush e_X12_hoursTill_2.2.2.2.2.2.1 (by decide) ?_
    refine R_callV (mc := 0) (ms := 0) (mc' := 0) (ms' := 0) (M' := M_X12_restores) (d' := 0) (as := [vI 3084]) (st := []) 12 1 e_X12_hoursTill_2.2.2.2.2.2.2.1 (kCVof m_X12_restores l_X12_422) rfl (by decide) km_0 (by decide) (by decide) rfl rfl (by show (0 : Nat) ≤ 8; decide) ?_
    refine Run.mono h (fun r5 s6 h => ?_)
    refine R_eqs (st2 := []) rfl rfl ?_
    refine R_iload e_X12_hoursTill_2.2.2.2.2.2.2.2.1 4 rfl ?_
    refine R_iload_n e_X12_hoursTill_2.2.2.2.2.2.2.2.2.1 3 rfl ?_
    refine R_icmp_le 65 e_X12_hoursTill_2.2.2.2.2.2.2.2.2.2 (by decide) q3 q4 (fun q => ?_) (fun q => ?_)
    · replace h := h.1 q
      refine R_iload e_X12_hoursTill_3.2.2.1 4 rfl ?_
      exact R_ireturn e_X12_hoursTill_3.2.2.2 rfl h
    · replace h := h.2 q
      refine R_iconst e_X12_hoursTill_3.1 ?_
      refine R_goto 67 e_X12_hoursTill_3.2.1 (by decide) ?_
      exact R_ireturn e_X12_hoursTill_3.2.2.2 rfl h
  · replace h := h.2 q
    refine R_aload_n e_X12_hoursTill_0.2.2.2.2.2.2.2.2.1 0 rfl ?_
    refine R_aload_n e_X12_hoursTill_0.2.2.2.2.2.2.2.2.2 0 rfl ?_
    refine R_iload_n e_X12_hoursTill_1.1 1 rfl ?_
    obtain ⟨q7, h⟩ := h
    refine R_if_ne 26 e_X12_hoursTill_1.2.1 (by decide) q7  (fun q => ?_) (fun q => ?_)
    · replace h := h.1 q
      refine R_iconst e_X12_hoursTill_1.2.2.2.2.1 ?_
      obtain ⟨q10, h⟩ := h
      refine R_callV (mc := 0) (ms := 0) (mc' := 0) (ms' := 0) (M' := M_X12_setOf) (d' := 4) (as := [vI 1]) (st := [vA G 0]) 12 1 e_X12_hoursTill_1.2.2.2.2.2.1 (kCVof m_X12_setOf l_X12_337) rfl (by decide) km_0 (by decide) (by decide) rfl rfl (by show (1 : Nat) ≤ 8; decide) ?_
      refine Run.mono (P_X12_setOf q10) (fun r s e => ?_)
      obtain ⟨e1, e2⟩ := e
      refine R_eqs (st2 := [vI (sSet (σ 1) (1) : Int), vA G 0]) (σ2 := σ) (by rw [e1]; rfl) e2 ?_
      refine R_iload_n e_X12_hoursTill_1.2.2.2.2.2.2.1 2 rfl ?_
      obtain ⟨q13, h⟩ := h
      refine R_callV (mc := 0) (ms := 0) (mc' := 0) (ms' := 0) (M' := M_X12_isIn) (d' := 0) (as := [vI (sSet (σ 1) (1) : Int), vI l2]) (st := []) 12 2 e_X12_hoursTill_1.2.2.2.2.2.2.2.1 (kCVof m_X12_isIn l_X12_299) rfl (by decide) km_0 (by decide) (by decide) rfl rfl (by show (0 : Nat) ≤ 8; decide) ?_
      refine Run.mono (P_X12_isIn q13) (fun r s e => ?_)
      obtain ⟨e1, e2⟩ := e
      refine R_eqs (st2 := [vI (kb (sIn ((sSet (σ 1) (1) : Int)) (l2)))]) (σ2 := σ) (by rw [e1]; rfl) e2 ?_
      refine R_if_ne 48 e_X12_hoursTill_1.2.2.2.2.2.2.2.2.1 (by decide) (kb_r _) (fun q => ?_) (fun q => ?_)
      · replace h := h.1 (kb_t q)
        refine R_aload_n e_X12_hoursTill_2.2.2.2.2.1 0 rfl ?_
        refine R_sipush e_X12_hoursTill_2.2.2.2.2.2.1 (by decide) ?_
        refine R_callV (mc := 0) (ms := 0) (mc' := 0) (ms' := 0) (M' := M_X12_restores) (d' := 0) (as := [vI 3084]) (st := []) 12 1 e_X12_hoursTill_2.2.2.2.2.2.2.1 (kCVof m_X12_restores l_X12_422) rfl (by decide) km_0 (by decide) (by decide) rfl rfl (by show (0 : Nat) ≤ 8; decide) ?_
        refine Run.mono h (fun r14 s15 h => ?_)
        refine R_eqs (st2 := []) rfl rfl ?_
        refine R_iload e_X12_hoursTill_2.2.2.2.2.2.2.2.1 4 rfl ?_
        refine R_iload_n e_X12_hoursTill_2.2.2.2.2.2.2.2.2.1 3 rfl ?_
        refine R_icmp_le 65 e_X12_hoursTill_2.2.2.2.2.2.2.2.2.2 (by decide) q3 q4 (fun q => ?_) (fun q => ?_)
        · replace h := h.1 q
          refine R_iload e_X12_hoursTill_3.2.2.1 4 rfl ?_
          exact R_ireturn e_X12_hoursTill_3.2.2.2 rfl h
        · replace h := h.2 q
          refine R_iconst e_X12_hoursTill_3.1 ?_
          refine R_goto 67 e_X12_hoursTill_3.2.1 (by decide) ?_
          exact R_ireturn e_X12_hoursTill_3.2.2.2 rfl h
      · replace h := h.2 (kb_f q)
        refine R_aload_n e_X12_hoursTill_1.2.2.2.2.2.2.2.2.2 0 rfl ?_
        refine R_callV (mc := 0) (ms := 0) (mc' := 0) (ms' := 0) (M' := M_X12_goesBy) (d' := 8) (as := []) (st := []) 12 0 e_X12_hoursTill_2.1 (kCVof m_X12_goesBy l_X12_397) rfl (by decide) km_0 (by decide) (by decide) rfl rfl (by show (0 : Nat) ≤ 8; decide) ?_
        refine Run.mono h (fun r16 s17 h => ?_)
        refine R_eqs (st2 := [vI r16]) rfl rfl ?_
        refine R_pop e_X12_hoursTill_2.2.1 rfl ?_
        refine R_iinc (ls2 := [(4, vI (l4 + 1)), (0, vA G 0), (1, vI l1), (2, vI l2), (3, vI l3)]) e_X12_hoursTill_2.2.2.1 4 rfl (by decide) rfl ?_
        refine R_goto 10 e_X12_hoursTill_2.2.2.2.1 (by decide) ?_
        refine R_ls (ls2 := [(0, vA G 0), (1, vI l1), (2, vI l2), (3, vI l3), (4, vI (l4 + 1))]) [1, 2, 3, 4, 0] rfl ?_
        exact h
    · replace h := h.2 q
      refine R_iconst e_X12_hoursTill_1.2.2.1 ?_
      refine R_goto 27 e_X12_hoursTill_1.2.2.2.1 (by decide) ?_
      obtain ⟨q20, h⟩ := h
      refine R_callV (mc := 0) (ms := 0) (mc' := 0) (ms' := 0) (M' := M_X12_setOf) (d' := 4) (as := [vI 2]) (st := [vA G 0]) 12 1 e_X12_hoursTill_1.2.2.2.2.2.1 (kCVof m_X12_setOf l_X12_337) rfl (by decide) km_0 (by decide) (by decide) rfl rfl (by show (1 : Nat) ≤ 8; decide) ?_
      refine Run.mono (P_X12_setOf q20) (fun r s e => ?_)
      obtain ⟨e1, e2⟩ := e
      refine R_eqs (st2 := [vI (sSet (σ 1) (2) : Int), vA G 0]) (σ2 := σ) (by rw [e1]; rfl) e2 ?_
      refine R_iload_n e_X12_hoursTill_1.2.2.2.2.2.2.1 2 rfl ?_
      obtain ⟨q23, h⟩ := h
      refine R_callV (mc := 0) (ms := 0) (mc' := 0) (ms' := 0) (M' := M_X12_isIn) (d' := 0) (as := [vI (sSet (σ 1) (2) : Int), vI l2]) (st := []) 12 2 e_X12_hoursTill_1.2.2.2.2.2.2.2.1 (kCVof m_X12_isIn l_X12_299) rfl (by decide) km_0 (by decide) (by decide) rfl rfl (by show (0 : Nat) ≤ 8; decide) ?_
      refine Run.mono (P_X12_isIn q23) (fun r s e => ?_)
      obtain ⟨e1, e2⟩ := e
      refine R_eqs (st2 := [vI (kb (sIn ((sSet (σ 1) (2) : Int)) (l2)))]) (σ2 := σ) (by rw [e1]; rfl) e2 ?_
      refine R_if_ne 48 e_X12_hoursTill_1.2.2.2.2.2.2.2.2.1 (by decide) (kb_r _) (fun q => ?_) (fun q => ?_)
      · replace h := h.1 (kb_t q)
        refine R_aload_n e_X12_hoursTill_2.2.2.2.2.1 0 rfl ?_
        refine R_sipush e_X12_hoursTill_2.2.2.2.2.2.1 (by decide) ?_
        refine R_callV (mc := 0) (ms := 0) (mc' := 0) (ms' := 0) (M' := M_X12_restores) (d' := 0) (as := [vI 3084]) (st := []) 12 1 e_X12_hoursTill_2.2.2.2.2.2.2.1 (kCVof m_X12_restores l_X12_422) rfl (by decide) km_0 (by decide) (by decide) rfl rfl (by show (0 : Nat) ≤ 8; decide) ?_
        refine Run.mono h (fun r24 s25 h => ?_)
        refine R_eqs (st2 := []) rfl rfl ?_
        refine R_iload e_X12_hoursTill_2.2.2.2.2.2.2.2.1 4 rfl ?_
        refine R_iload_n e_X12_hoursTill_2.2.2.2.2.2.2.2.2.1 3 rfl ?_
        refine R_icmp_le 65 e_X12_hoursTill_2.2.2.2.2.2.2.2.2.2 (by decide) q3 q4 (fun q => ?_) (fun q => ?_)
        · replace h := h.1 q
          refine R_iload e_X12_hoursTill_3.2.2.1 4 rfl ?_
          exact R_ireturn e_X12_hoursTill_3.2.2.2 rfl h
        · replace h := h.2 q
          refine R_iconst e_X12_hoursTill_3.1 ?_
          refine R_goto 67 e_X12_hoursTill_3.2.1 (by decide) ?_
          exact R_ireturn e_X12_hoursTill_3.2.2.2 rfl h
      · replace h := h.2 (kb_f q)
        refine R_aload_n e_X12_hoursTill_1.2.2.2.2.2.2.2.2.2 0 rfl ?_
        refine R_callV (mc := 0) (ms := 0) (mc' := 0) (ms' := 0) (M' := M_X12_goesBy) (d' := 8) (as := []) (st := []) 12 0 e_X12_hoursTill_2.1 (kCVof m_X12_goesBy l_X12_397) rfl (by decide) km_0 (by decide) (by decide) rfl rfl (by show (0 : Nat) ≤ 8; decide) ?_
        refine Run.mono h (fun r26 s27 h => ?_)
        refine R_eqs (st2 := [vI r26]) rfl rfl ?_
        refine R_pop e_X12_hoursTill_2.2.1 rfl ?_
        refine R_iinc (ls2 := [(4, vI (l4 + 1)), (0, vA G 0), (1, vI l1), (2, vI l2), (3, vI l3)]) e_X12_hoursTill_2.2.2.1 4 rfl (by decide) rfl ?_
        refine R_goto 10 e_X12_hoursTill_2.2.2.2.1 (by decide) ?_
        refine R_ls (ls2 := [(0, vA G 0), (1, vI l1), (2, vI l2), (3, vI l3), (4, vI (l4 + 1))]) [1, 2, 3, 4, 0] rfl ?_
        exact h
/-! KiteLandModel.laysHours(II)V -/
theorem e_X12_laysHours_0 : decode cX12_laysHours 0 = .ok (.iconst 0, 1) ∧ decode cX12_laysHours 1 = .ok (.istore_n 3, 1) ∧ decode cX12_laysHours 2 = .ok (.iload_n 3, 1) ∧ decode cX12_laysHours 3 = .ok (.bipush 70, 2) ∧ decode cX12_laysHours 5 = .ok (.if_icmp .ge 16, 3) ∧ decode cX12_laysHours 8 = .ok (.aload_n 0, 1) ∧ decode cX12_laysHours 9 = .ok (.getfield 47, 3) ∧ decode cX12_laysHours 12 = .ok (.iload_n 3, 1) ∧ decode cX12_laysHours 13 = .ok (.iconst 0, 1) ∧ decode cX12_laysHours 14 = .ok (.iastore, 1) := by decide +kernel
theorem e_X12_laysHours_1 : decode cX12_laysHours 15 = .ok (.iinc 3 1, 3) ∧ decode cX12_laysHours 18 = .ok (.goto (-16), 3) ∧ decode cX12_laysHours 21 = .ok (.aload_n 0, 1) ∧ decode cX12_laysHours 22 = .ok (.sipush 3084, 3) ∧ decode cX12_laysHours 25 = .ok (.invokevirtual 419, 3) ∧ decode cX12_laysHours 28 = .ok (.iconst 0, 1) ∧ decode cX12_laysHours 29 = .ok (.istore_n 3, 1) ∧ decode cX12_laysHours 30 = .ok (.iload_n 3, 1) ∧ decode cX12_laysHours 31 = .ok (.iload_n 1, 1) ∧ decode cX12_laysHours 32 = .ok (.if_icmp .ge 117, 3) := by decide +kernel
theorem e_X12_laysHours_2 : decode cX12_laysHours 35 = .ok (.aload_n 0, 1) ∧ decode cX12_laysHours 36 = .ok (.invokevirtual 385, 3) ∧ decode cX12_laysHours 39 = .ok (.pop, 1) ∧ decode cX12_laysHours 40 = .ok (.iconst 0, 1) ∧ decode cX12_laysHours 41 = .ok (.istore 4, 2) ∧ decode cX12_laysHours 43 = .ok (.iload 4, 2) ∧ decode cX12_laysHours 45 = .ok (.aload_n 0, 1) ∧ decode cX12_laysHours 46 = .ok (.getfield 7, 3) ∧ decode cX12_laysHours 49 = .ok (.iconst 0, 1) ∧ decode cX12_laysHours 50 = .ok (.iaload, 1) := by decide +kernel
theorem e_X12_laysHours_3 : decode cX12_laysHours 51 = .ok (.if_icmp .ge 81, 3) ∧ decode cX12_laysHours 54 = .ok (.iconst 0, 1) ∧ decode cX12_laysHours 55 = .ok (.istore 5, 2) ∧ decode cX12_laysHours 57 = .ok (.iload 5, 2) ∧ decode cX12_laysHours 59 = .ok (.aload_n 0, 1) ∧ decode cX12_laysHours 60 = .ok (.getfield 7, 3) ∧ decode cX12_laysHours 63 = .ok (.iconst 1, 1) ∧ decode cX12_laysHours 64 = .ok (.iaload, 1) ∧ decode cX12_laysHours 65 = .ok (.if_icmp .ge 61, 3) ∧ decode cX12_laysHours 68 = .ok (.aload_n 0, 1) := by decide +kernel
theorem e_X12_laysHours_4 : decode cX12_laysHours 69 = .ok (.iload 4, 2) ∧ decode cX12_laysHours 71 = .ok (.iload 5, 2) ∧ decode cX12_laysHours 73 = .ok (.aload_n 0, 1) ∧ decode cX12_laysHours 74 = .ok (.invokevirtual 325, 3) ∧ decode cX12_laysHours 77 = .ok (.invokevirtual 312, 3) ∧ decode cX12_laysHours 80 = .ok (.istore 6, 2) ∧ decode cX12_laysHours 82 = .ok (.aload_n 0, 1) ∧ decode cX12_laysHours 83 = .ok (.getfield 47, 3) ∧ decode cX12_laysHours 86 = .ok (.bipush 10, 2) ∧ decode cX12_laysHours 88 = .ok (.iload 5, 2) := by decide +kernel
theorem e_X12_laysHours_5 : decode cX12_laysHours 90 = .ok (.imul, 1) ∧ decode cX12_laysHours 91 = .ok (.iload 4, 2) ∧ decode cX12_laysHours 93 = .ok (.iadd, 1) ∧ decode cX12_laysHours 94 = .ok (.dup2, 1) ∧ decode cX12_laysHours 95 = .ok (.iaload, 1) ∧ decode cX12_laysHours 96 = .ok (.iload 6, 2) ∧ decode cX12_laysHours 98 = .ok (.iconst (-1), 1) ∧ decode cX12_laysHours 99 = .ok (.if_icmp .eq 18, 3) ∧ decode cX12_laysHours 102 = .ok (.iload_n 2, 1) ∧ decode cX12_laysHours 103 = .ok (.iconst (-1), 1) := by decide +kernel
theorem e_X12_laysHours_6 : decode cX12_laysHours 104 = .ok (.if_icmp .eq 9, 3) ∧ decode cX12_laysHours 107 = .ok (.iload 6, 2) ∧ decode cX12_laysHours 109 = .ok (.iload_n 2, 1) ∧ decode cX12_laysHours 110 = .ok (.if_icmp .ne 7, 3) ∧ decode cX12_laysHours 113 = .ok (.iconst 1, 1) ∧ decode cX12_laysHours 114 = .ok (.goto 4, 3) ∧ decode cX12_laysHours 117 = .ok (.iconst 0, 1) ∧ decode cX12_laysHours 118 = .ok (.iadd, 1) ∧ decode cX12_laysHours 119 = .ok (.iastore, 1) ∧ decode cX12_laysHours 120 = .ok (.iinc 5 1, 3) := by decide +kernel
theorem e_X12_laysHours_7 : decode cX12_laysHours 123 = .ok (.goto (-66), 3) ∧ decode cX12_laysHours 126 = .ok (.iinc 4 1, 3) ∧ decode cX12_laysHours 129 = .ok (.goto (-86), 3) ∧ decode cX12_laysHours 132 = .ok (.aload_n 0, 1) ∧ decode cX12_laysHours 133 = .ok (.getfield 7, 3) ∧ decode cX12_laysHours 136 = .ok (.bipush 7, 2) ∧ decode cX12_laysHours 138 = .ok (.dup2, 1) ∧ decode cX12_laysHours 139 = .ok (.iaload, 1) ∧ decode cX12_laysHours 140 = .ok (.iconst 1, 1) ∧ decode cX12_laysHours 141 = .ok (.iadd, 1) := by decide +kernel
theorem e_X12_laysHours_8 : decode cX12_laysHours 142 = .ok (.iastore, 1) ∧ decode cX12_laysHours 143 = .ok (.iinc 3 1, 3) ∧ decode cX12_laysHours 146 = .ok (.goto (-116), 3) ∧ decode cX12_laysHours 149 = .ok (.aload_n 0, 1) ∧ decode cX12_laysHours 150 = .ok (.sipush 3084, 3) ∧ decode cX12_laysHours 153 = .ok (.invokevirtual 422, 3) ∧ decode cX12_laysHours 156 = .ok (.return_, 1) := by decide +kernel
abbrev E_X12_laysHours_2 (G : Kg) (l1 l2 l3 : Int) (σ : Kmem) (Q : Int → Kmem → Prop) : Prop := Ex G WM M_X12_laysHours 8 0 0 2 [(0, vA G 0), (1, vI l1), (2, vI l2), (3, vI l3)] [] σ Q
abbrev E_X12_laysHours_30 (G : Kg) (l1 l2 l3 : Int) (σ : Kmem) (Q : Int → Kmem → Prop) : Prop := Ex G WM M_X12_laysHours 8 0 0 30 [(0, vA G 0), (1, vI l1), (2, vI l2), (3, vI l3)] [] σ Q
abbrev E_X12_laysHours_43 (G : Kg) (l1 l2 l3 l4 : Int) (σ : Kmem) (Q : Int → Kmem → Prop) : Prop := Ex G WM M_X12_laysHours 8 0 0 43 [(0, vA G 0), (1, vI l1), (2, vI l2), (3, vI l3), (4, vI l4)] [] σ Q
abbrev E_X12_laysHours_57 (G : Kg) (l1 l2 l3 l4 l5 : Int) (σ : Kmem) (Q : Int → Kmem → Prop) : Prop := Ex G WM M_X12_laysHours 8 0 0 57 [(0, vA G 0), (1, vI l1), (2, vI l2), (3, vI l3), (4, vI l4), (5, vI l5)] [] σ Q
theorem S_X12_laysHours {G : Kg} {σ : Kmem} {Q : Int → Kmem → Prop} {l1 l2 : Int}  (h : E_X12_laysHours_2 G l1 l2 0 σ Q) : Run G WM M_X12_laysHours 8 0 0 [vA G 0, vI l1, vI l2] σ Q := by
  refine Run.of (by decide +kernel) (by show (3 : Nat) ≤ 7; decide) ?_
  show Ex G WM M_X12_laysHours 8 0 0 0 [(0, vA G 0), (1, vI l1), (2, vI l2)] [] σ Q
  refine R_iconst e_X12_laysHours_0.1 ?_
  refine R_istore_n (ls2 := [(3, vI 0), (0, vA G 0), (1, vI l1), (2, vI l2)]) e_X12_laysHours_0.2.1 (by decide) rfl ?_
  refine R_ls (ls2 := [(0, vA G 0), (1, vI l1), (2, vI l2), (3, vI 0)]) [1, 2, 3, 0] rfl ?_
  exact h
theorem S_X12_laysHours_2 {G : Kg} {σ : Kmem} {Q : Int → Kmem → Prop} {l1 l2 l3 : Int}  (h : (rI l3) ∧ ((70 ≤ l3 → Run G WM M_X12_keeps 0 0 0 [vA G 0, vI 3084] σ (fun r2 s3 => E_X12_laysHours_30 G l1 l2 0 s3 Q)) ∧ (l3 < 70 → (0 ≤ l3 ∧ l3 < 70) ∧ E_X12_laysHours_2 G l1 l2 (l3 + 1) (kup σ 9 l3 0) Q))) : E_X12_laysHours_2 G l1 l2 l3 σ Q := by
  refine R_iload_n e_X12_laysHours_0.2.2.1 3 rfl ?_
  refine R_bipush e_X12_laysHours_0.2.2.2.1 (by decide) ?_
  obtain ⟨q1, h⟩ := h
  refine R_icmp_ge 21 e_X12_laysHours_0.2.2.2.2.1 (by decide) q1 (by decide) (fun q => ?_) (fun q => ?_)
  · replace h := h.1 q
    refine R_aload_n e_X12_laysHours_1.2.2.1 0 rfl ?_
    refine R_sipush e_X12_laysHours_1.2.2.2.1 (by decide) ?_
    refine R_callV (mc := 0) (ms := 0) (mc' := 0) (ms' := 0) (M' := M_X12_keeps) (d' := 0) (as := [vI 3084]) (st := []) 12 1 e_X12_laysHours_1.2.2.2.2.1 (kCVof m_X12_keeps l_X12_419) rfl (by decide) km_0 (by decide) (by decide) rfl rfl (by show (0 : Nat) ≤ 8; decide) ?_
    refine Run.mono h (fun r2 s3 h => ?_)
    refine R_eqs (st2 := []) rfl rfl ?_
    refine R_iconst e_X12_laysHours_1.2.2.2.2.2.1 ?_
    refine R_istore_n (ls2 := [(3, vI 0), (0, vA G 0), (1, vI l1), (2, vI l2)]) e_X12_laysHours_1.2.2.2.2.2.2.1 (by decide) rfl ?_
    refine R_ls (ls2 := [(0, vA G 0), (1, vI l1), (2, vI l2), (3, vI 0)]) [1, 2, 3, 0] rfl ?_
    exact h
  · replace h := h.2 q
    refine R_aload_n e_X12_laysHours_0.2.2.2.2.2.1 0 rfl ?_
    refine R_getA 12 24 9 e_X12_laysHours_0.2.2.2.2.2.2.1 f_X12_47 km_0 (fun _ _ => rfl) rm_0_24 (by decide) ?_
    refine R_iload_n e_X12_laysHours_0.2.2.2.2.2.2.2.1 3 rfl ?_
    refine R_iconst e_X12_laysHours_0.2.2.2.2.2.2.2.2.1 ?_
    obtain ⟨q4, h⟩ := h
    refine R_iast 70 WM_ok e_X12_laysHours_0.2.2.2.2.2.2.2.2.2 kma_9 q4 ?_
    refine R_iinc (ls2 := [(3, vI (l3 + 1)), (0, vA G 0), (1, vI l1), (2, vI l2)]) e_X12_laysHours_1.1 3 rfl (by decide) rfl ?_
    refine R_goto 2 e_X12_laysHours_1.2.1 (by decide) ?_
    refine R_ls (ls2 := [(0, vA G 0), (1, vI l1), (2, vI l2), (3, vI (l3 + 1))]) [1, 2, 3, 0] rfl ?_
    exact h
theorem S_X12_laysHours_30 {G : Kg} {σ : Kmem} {Q : Int → Kmem → Prop} {l1 l2 l3 : Int}  (h : (rI l3) ∧ (rI l1) ∧ ((l1 ≤ l3 → Run G WM M_X12_restores 0 0 0 [vA G 0, vI 3084] σ (fun r7 s8 => Q 0 s8)) ∧ (l3 < l1 → Run G WM M_X12_cuts 7 0 0 [vA G 0] σ (fun r9 s10 => E_X12_laysHours_43 G l1 l2 l3 0 s10 Q)))) : E_X12_laysHours_30 G l1 l2 l3 σ Q := by
  refine R_iload_n e_X12_laysHours_1.2.2.2.2.2.2.2.1 3 rfl ?_
  refine R_iload_n e_X12_laysHours_1.2.2.2.2.2.2.2.2.1 1 rfl ?_
  obtain ⟨q5, h⟩ := h
  obtain ⟨q6, h⟩ := h
  refine R_icmp_ge 149 e_X12_laysHours_1.2.2.2.2.2.2.2.2.2 (by decide) q5 q6 (fun q => ?_) (fun q => ?_)
  · replace h := h.1 q
    refine R_aload_n e_X12_laysHours_8.2.2.2.1 0 rfl ?_
    refine R_sipush e_X12_laysHours_8.2.2.2.2.1 (by decide) ?_
    refine R_callV (mc := 0) (ms := 0) (mc' := 0) (ms' := 0) (M' := M_X12_restores) (d' := 0) (as := [vI 3084]) (st := []) 12 1 e_X12_laysHours_8.2.2.2.2.2.1 (kCVof m_X12_restores l_X12_422) rfl (by decide) km_0 (by decide) (by decide) rfl rfl (by show (0 : Nat) ≤ 8; decide) ?_
    refine Run.mono h (fun r7 s8 h => ?_)
    refine R_eqs (st2 := []) rfl rfl ?_
    exact R_return e_X12_laysHours_8.2.2.2.2.2.2 rfl h
  · replace h := h.2 q
    refine R_aload_n e_X12_laysHours_2.1 0 rfl ?_
    refine R_callV (mc := 0) (ms := 0) (mc' := 0) (ms' := 0) (M' := M_X12_cuts) (d' := 7) (as := []) (st := []) 12 0 e_X12_laysHours_2.2.1 (kCVof m_X12_cuts l_X12_385) rfl (by decide) km_0 (by decide) (by decide) rfl rfl (by show (0 : Nat) ≤ 8; decide) ?_
    refine Run.mono h (fun r9 s10 h => ?_)
    refine R_eqs (st2 := [vI r9]) rfl rfl ?_
    refine R_pop e_X12_laysHours_2.2.2.1 rfl ?_
    refine R_iconst e_X12_laysHours_2.2.2.2.1 ?_
    refine R_istore (ls2 := [(4, vI 0), (0, vA G 0), (1, vI l1), (2, vI l2), (3, vI l3)]) e_X12_laysHours_2.2.2.2.2.1 (by decide) rfl ?_
    refine R_ls (ls2 := [(0, vA G 0), (1, vI l1), (2, vI l2), (3, vI l3), (4, vI 0)]) [1, 2, 3, 4, 0] rfl ?_
    exact h
theorem S_X12_laysHours_43 {G : Kg} {σ : Kmem} {Q : Int → Kmem → Prop} {l1 l2 l3 l4 : Int}  (h : (rI l4) ∧ (rI (σ 1 0)) ∧ ((σ 1 0 ≤ l4 → E_X12_laysHours_30 G l1 l2 (l3 + 1) (kup σ 1 7 ((σ 1 7) + 1)) Q) ∧ (l4 < σ 1 0 → E_X12_laysHours_57 G l1 l2 l3 l4 0 σ Q))) : E_X12_laysHours_43 G l1 l2 l3 l4 σ Q := by
  refine R_iload e_X12_laysHours_2.2.2.2.2.2.1 4 rfl ?_
  refine R_aload_n e_X12_laysHours_2.2.2.2.2.2.2.1 0 rfl ?_
  refine R_getA 12 0 1 e_X12_laysHours_2.2.2.2.2.2.2.2.1 f_X12_7 km_0 (fun _ _ => rfl) rm_0_0 (by decide) ?_
  refine R_iconst e_X12_laysHours_2.2.2.2.2.2.2.2.2.1 ?_
  refine R_iald 3598 e_X12_laysHours_2.2.2.2.2.2.2.2.2.2 kma_1 (by decide) ?_
  obtain ⟨q11, h⟩ := h
  obtain ⟨q12, h⟩ := h
  refine R_icmp_ge 132 e_X12_laysHours_3.1 (by decide) q11 q12 (fun q => ?_) (fun q => ?_)
  · replace h := h.1 q
    refine R_aload_n e_X12_laysHours_7.2.2.2.1 0 rfl ?_
    refine R_getA 12 0 1 e_X12_laysHours_7.2.2.2.2.1 f_X12_7 km_0 (fun _ _ => rfl) rm_0_0 (by decide) ?_
    refine R_bipush e_X12_laysHours_7.2.2.2.2.2.1 (by decide) ?_
    refine R_dup2 e_X12_laysHours_7.2.2.2.2.2.2.1 rfl rfl ?_
    refine R_iald 3598 e_X12_laysHours_7.2.2.2.2.2.2.2.1 kma_1 (by decide) ?_
    refine R_iconst e_X12_laysHours_7.2.2.2.2.2.2.2.2.1 ?_
    refine R_iadd e_X12_laysHours_7.2.2.2.2.2.2.2.2.2 ?_
    refine R_iast 3598 WM_ok e_X12_laysHours_8.1 kma_1 (by decide) ?_
    refine R_iinc (ls2 := [(3, vI (l3 + 1)), (0, vA G 0), (1, vI l1), (2, vI l2), (4, vI l4)]) e_X12_laysHours_8.2.1 3 rfl (by decide) rfl ?_
    refine R_goto 30 e_X12_laysHours_8.2.2.1 (by decide) ?_
    refine R_ls (ls2 := [(0, vA G 0), (1, vI l1), (2, vI l2), (3, vI (l3 + 1))]) [1, 2, 3, 0] rfl ?_
    exact h
  · replace h := h.2 q
    refine R_iconst e_X12_laysHours_3.2.1 ?_
    refine R_istore (ls2 := [(5, vI 0), (0, vA G 0), (1, vI l1), (2, vI l2), (3, vI l3), (4, vI l4)]) e_X12_laysHours_3.2.2.1 (by decide) rfl ?_
    refine R_ls (ls2 := [(0, vA G 0), (1, vI l1), (2, vI l2), (3, vI l3), (4, vI l4), (5, vI 0)]) [1, 2, 3, 4, 5, 0] rfl ?_
    exact h
theorem S_X12_laysHours_57 {G : Kg} {σ : Kmem} {Q : Int → Kmem → Prop} {l1 l2 l3 l4 l5 : Int}  (h : (rI l5) ∧ (rI (σ 1 1)) ∧ ((σ 1 1 ≤ l5 → E_X12_laysHours_43 G l1 l2 l3 (l4 + 1) σ Q) ∧ (l5 < σ 1 1 → (0 ≤ σ 1 7 ∧ σ 1 7 ≤ 2147483647) ∧ (wf (σ 1) ∧ ((0 : Int) ≤ l4 ∧ (l4 : Int) ≤ 100) ∧ ((0 : Int) ≤ l5 ∧ (l5 : Int) ≤ 100) ∧ sHr ((σ 1 7) % 12)) ∧ (0 ≤ (10 * l5) + l4 ∧ (10 * l5) + l4 < 70) ∧ (rI (sOwn (σ 1) (l4) (l5) ((σ 1 7) % 12))) ∧ ((sOwn (σ 1) (l4) (l5) ((σ 1 7) % 12) = -1 → (0 ≤ (10 * l5) + l4 ∧ (10 * l5) + l4 < 70) ∧ E_X12_laysHours_57 G l1 l2 l3 l4 (l5 + 1) (kup σ 9 ((10 * l5) + l4) ((σ 9 ((10 * l5) + l4)) + 0)) Q) ∧ (sOwn (σ 1) (l4) (l5) ((σ 1 7) % 12) ≠ -1 → (rI l2) ∧ ((l2 = -1 → (0 ≤ (10 * l5) + l4 ∧ (10 * l5) + l4 < 70) ∧ E_X12_laysHours_57 G l1 l2 l3 l4 (l5 + 1) (kup σ 9 ((10 * l5) + l4) ((σ 9 ((10 * l5) + l4)) + 1)) Q) ∧ (l2 ≠ -1 → ((sOwn (σ 1) (l4) (l5) ((σ 1 7) % 12) ≠ l2 → (0 ≤ (10 * l5) + l4 ∧ (10 * l5) + l4 < 70) ∧ E_X12_laysHours_57 G l1 l2 l3 l4 (l5 + 1) (kup σ 9 ((10 * l5) + l4) ((σ 9 ((10 * l5) + l4)) + 0)) Q) ∧ (sOwn (σ 1) (l4) (l5) ((σ 1 7) % 12) = l2 → (0 ≤ (10 * l5) + l4 ∧ (10 * l5) + l4 < 70) ∧ E_X12_laysHours_57 G l1 l2 l3 l4 (l5 + 1) (kup σ 9 ((10 * l5) + l4) ((σ 9 ((10 * l5) + l4)) + 1)) Q))))))))) : E_X12_laysHours_57 G l1 l2 l3 l4 l5 σ Q := by
  refine R_iload e_X12_laysHours_3.2.2.2.1 5 rfl ?_
  refine R_aload_n e_X12_laysHours_3.2.2.2.2.1 0 rfl ?_
  refine R_getA 12 0 1 e_X12_laysHours_3.2.2.2.2.2.1 f_X12_7 km_0 (fun _ _ => rfl) rm_0_0 (by decide) ?_
  refine R_iconst e_X12_laysHours_3.2.2.2.2.2.2.1 ?_
  refine R_iald 3598 e_X12_laysHours_3.2.2.2.2.2.2.2.1 kma_1 (by decide) ?_
  obtain ⟨q13, h⟩ := h
  obtain ⟨q14, h⟩ := h
  refine R_icmp_ge 126 e_X12_laysHours_3.2.2.2.2.2.2.2.2.1 (by decide) q13 q14 (fun q => ?_) (fun q => ?_)
  · replace h := h.1 q
    refine R_iinc (ls2 := [(4, vI (l4 + 1)), (0, vA G 0), (1, vI l1), (2, vI l2), (3, vI l3), (5, vI l5)]) e_X12_laysHours_7.2.1 4 rfl (by decide) rfl ?_
    refine R_goto 43 e_X12_laysHours_7.2.2.1 (by decide) ?_
    refine R_ls (ls2 := [(0, vA G 0), (1, vI l1), (2, vI l2), (3, vI l3), (4, vI (l4 + 1))]) [1, 2, 3, 4, 0] rfl ?_
    exact h
  · replace h := h.2 q
    refine R_aload_n e_X12_laysHours_3.2.2.2.2.2.2.2.2.2 0 rfl ?_
    refine R_iload e_X12_laysHours_4.1 4 rfl ?_
    refine R_iload e_X12_laysHours_4.2.1 5 rfl ?_
    refine R_aload_n e_X12_laysHours_4.2.2.1 0 rfl ?_
    refine R_callV (mc := 0) (ms := 0) (mc' := 0) (ms' := 0) (M' := M_X12_now) (d' := 0) (as := []) (st := [vI l5, vI l4, vA G 0]) 12 0 e_X12_laysHours_4.2.2.2.1 (kCVof m_X12_now l_X12_325) rfl (by decide) km_0 (by decide) (by decide) rfl rfl (by show (3 : Nat) ≤ 8; decide) ?_
    obtain ⟨q17, h⟩ := h
    refine S_X12_now ⟨q17, ?_⟩
    refine R_eqs (st2 := [vI ((σ 1 7) % 12), vI l5, vI l4, vA G 0]) (σ2 := σ) rfl rfl ?_
    obtain ⟨q20, h⟩ := h
    refine R_callV (mc := 0) (ms := 0) (mc' := 0) (ms' := 0) (M' := M_X12_ownerOf) (d' := 6) (as := [vI l4, vI l5, vI ((σ 1 7) % 12)]) (st := []) 12 3 e_X12_laysHours_4.2.2.2.2.1 (kCVof m_X12_ownerOf l_X12_312) rfl (by decide) km_0 (by decide) (by decide) rfl rfl (by show (0 : Nat) ≤ 8; decide) ?_
    refine Run.mono (P_X12_ownerOf q20) (fun r s e => ?_)
    obtain ⟨e1, e2⟩ := e
    refine R_eqs (st2 := [vI (sOwn (σ 1) (l4) (l5) ((σ 1 7) % 12))]) (σ2 := σ) (by rw [e1]; rfl) e2 ?_
    refine R_istore (ls2 := [(6, vI (sOwn (σ 1) (l4) (l5) ((σ 1 7) % 12))), (0, vA G 0), (1, vI l1), (2, vI l2), (3, vI l3), (4, vI l4), (5, vI l5)]) e_X12_laysHours_4.2.2.2.2.2.1 (by decide) rfl ?_
    refine R_aload_n e_X12_laysHours_4.2.2.2.2.2.2.1 1 rfl ?_
    refine R_getA 12 24 9 e_X12_laysHours_4.2.2.2.2.2.2.2.1 f_X12_47 km_0 (fun _ _ => rfl) rm_0_24 (by decide) ?_
    refine R_bipush e_X12_laysHours_4.2.2.2.2.2.2.2.2.1 (by decide) ?_
    refine R_iload e_X12_laysHours_4.2.2.2.2.2.2.2.2.2 6 rfl ?_
    refine R_imul e_X12_laysHours_5.1 ?_
    refine R_iload e_X12_laysHours_5.2.1 5 rfl ?_
    refine R_iadd e_X12_laysHours_5.2.2.1 ?_
    refine R_dup2 e_X12_laysHours_5.2.2.2.1 rfl rfl ?_
    obtain ⟨q21, h⟩ := h
    refine R_iald 70 e_X12_laysHours_5.2.2.2.2.1 kma_9 q21 ?_
    refine R_iload e_X12_laysHours_5.2.2.2.2.2.1 0 rfl ?_
    refine R_iconst e_X12_laysHours_5.2.2.2.2.2.2.1 ?_
    obtain ⟨q22, h⟩ := h
    refine R_icmp_eq 117 e_X12_laysHours_5.2.2.2.2.2.2.2.1 (by decide) q22 (by decide) (fun q => ?_) (fun q => ?_)
    · replace h := h.1 q
      refine R_iconst e_X12_laysHours_6.2.2.2.2.2.2.1 ?_
      refine R_iadd e_X12_laysHours_6.2.2.2.2.2.2.2.1 ?_
      obtain ⟨q23, h⟩ := h
      refine R_iast 70 WM_ok e_X12_laysHours_6.2.2.2.2.2.2.2.2.1 kma_9 q23 ?_
      refine R_iinc (ls2 := [(5, vI (l5 + 1)), (6, vI (sOwn (σ 1) (l4) (l5) ((σ 1 7) % 12))), (0, vA G 0), (1, vI l1), (2, vI l2), (3, vI l3), (4, vI l4)]) e_X12_laysHours_6.2.2.2.2.2.2.2.2.2 6 rfl (by decide) rfl ?_
      refine R_goto 57 e_X12_laysHours_7.1 (by decide) ?_
      refine R_ls (ls2 := [(0, vA G 0), (1, vI l1), (2, vI l2), (3, vI l3), (4, vI l4), (5, vI (l5 + 1))]) [2, 3, 4, 5, 6, 0] rfl ?_
      exact h
    · replace h := h.2 q
      refine R_iload_n e_X12_laysHours_5.2.2.2.2.2.2.2.2.1 3 rfl ?_
      refine R_iconst e_X12_laysHours_5.2.2.2.2.2.2.2.2.2 ?_
      obtain ⟨q24, h⟩ := h
      refine R_icmp_eq 113 e_X12_laysHours_6.1 (by decide) q24 (by decide) (fun q => ?_) (fun q => ?_)
      · replace h := h.1 q
        refine R_iconst e_X12_laysHours_6.2.2.2.2.1 ?_
        refine R_goto 118 e_X12_laysHours_6.2.2.2.2.2.1 (by decide) ?_
        refine R_iadd e_X12_laysHours_6.2.2.2.2.2.2.2.1 ?_
        obtain ⟨q25, h⟩ := h
        refine R_iast 70 WM_ok e_X12_laysHours_6.2.2.2.2.2.2.2.2.1 kma_9 q25 ?_
        refine R_iinc (ls2 := [(5, vI (l5 + 1)), (6, vI (sOwn (σ 1) (l4) (l5) ((σ 1 7) % 12))), (0, vA G 0), (1, vI l1), (2, vI l2), (3, vI l3), (4, vI l4)]) e_X12_laysHours_6.2.2.2.2.2.2.2.2.2 6 rfl (by decide) rfl ?_
        refine R_goto 57 e_X12_laysHours_7.1 (by decide) ?_
        refine R_ls (ls2 := [(0, vA G 0), (1, vI l1), (2, vI l2), (3, vI l3), (4, vI l4), (5, vI (l5 + 1))]) [2, 3, 4, 5, 6, 0] rfl ?_
        exact h
      · replace h := h.2 q
        refine R_iload e_X12_laysHours_6.2.1 0 rfl ?_
        refine R_iload_n e_X12_laysHours_6.2.2.1 3 rfl ?_
        refine R_icmp_ne 117 e_X12_laysHours_6.2.2.2.1 (by decide) q22 q24 (fun q => ?_) (fun q => ?_)
        · replace h := h.1 q
          refine R_iconst e_X12_laysHours_6.2.2.2.2.2.2.1 ?_
          refine R_iadd e_X12_laysHours_6.2.2.2.2.2.2.2.1 ?_
          obtain ⟨q26, h⟩ := h
          refine R_iast 70 WM_ok e_X12_laysHours_6.2.2.2.2.2.2.2.2.1 kma_9 q26 ?_
          refine R_iinc (ls2 := [(5, vI (l5 + 1)), (6, vI (sOwn (σ 1) (l4) (l5) ((σ 1 7) % 12))), (0, vA G 0), (1, vI l1), (2, vI l2), (3, vI l3), (4, vI l4)]) e_X12_laysHours_6.2.2.2.2.2.2.2.2.2 6 rfl (by decide) rfl ?_
          refine R_goto 57 e_X12_laysHours_7.1 (by decide) ?_
          refine R_ls (ls2 := [(0, vA G 0), (1, vI l1), (2, vI l2), (3, vI l3), (4, vI l4), (5, vI (l5 + 1))]) [2, 3, 4, 5, 6, 0] rfl ?_
          exact h
        · replace h := h.2 q
          refine R_iconst e_X12_laysHours_6.2.2.2.2.1 ?_
          refine R_goto 118 e_X12_laysHours_6.2.2.2.2.2.1 (by decide) ?_
          refine R_iadd e_X12_laysHours_6.2.2.2.2.2.2.2.1 ?_
          obtain ⟨q27, h⟩ := h
          refine R_iast 70 WM_ok e_X12_laysHours_6.2.2.2.2.2.2.2.2.1 kma_9 q27 ?_
          refine R_iinc (ls2 := [(5, vI (l5 + 1)), (6, vI (sOwn (σ 1) (l4) (l5) ((σ 1 7) % 12))), (0, vA G 0), (1, vI l1), (2, vI l2), (3, vI l3), (4, vI l4)]) e_X12_laysHours_6.2.2.2.2.2.2.2.2.2 6 rfl (by decide) rfl ?_
          refine R_goto 57 e_X12_laysHours_7.1 (by decide) ?_
          refine R_ls (ls2 := [(0, vA G 0), (1, vI l1), (2, vI l2), (3, vI l3), (4, vI l4), (5, vI (l5 + 1))]) [2, 3, 4, 5, 6, 0] rfl ?_
          exact h
/-! KiteLandModel.plantOf(I)I -/
theorem e_X12_plantOf_0 : decode cX12_plantOf 0 = .ok (.aload_n 0, 1) ∧ decode cX12_plantOf 1 = .ok (.iload_n 1, 1) ∧ decode cX12_plantOf 2 = .ok (.iconst (-1), 1) ∧ decode cX12_plantOf 3 = .ok (.invokevirtual 431, 3) ∧ decode cX12_plantOf 6 = .ok (.iconst (-1), 1) ∧ decode cX12_plantOf 7 = .ok (.istore_n 2, 1) ∧ decode cX12_plantOf 8 = .ok (.iconst 0, 1) ∧ decode cX12_plantOf 9 = .ok (.istore_n 3, 1) ∧ decode cX12_plantOf 10 = .ok (.iload_n 3, 1) ∧ decode cX12_plantOf 11 = .ok (.bipush 70, 2) := by decide +kernel
theorem e_X12_plantOf_1 : decode cX12_plantOf 13 = .ok (.if_icmp .ge 46, 3) ∧ decode cX12_plantOf 16 = .ok (.aload_n 0, 1) ∧ decode cX12_plantOf 17 = .ok (.iload_n 3, 1) ∧ decode cX12_plantOf 18 = .ok (.bipush 10, 2) ∧ decode cX12_plantOf 20 = .ok (.irem, 1) ∧ decode cX12_plantOf 21 = .ok (.iload_n 3, 1) ∧ decode cX12_plantOf 22 = .ok (.bipush 10, 2) ∧ decode cX12_plantOf 24 = .ok (.idiv, 1) ∧ decode cX12_plantOf 25 = .ok (.invokevirtual 355, 3) ∧ decode cX12_plantOf 28 = .ok (.ifCond .eq 25, 3) := by decide +kernel
theorem e_X12_plantOf_2 : decode cX12_plantOf 31 = .ok (.iload_n 2, 1) ∧ decode cX12_plantOf 32 = .ok (.iconst (-1), 1) ∧ decode cX12_plantOf 33 = .ok (.if_icmp .eq 18, 3) ∧ decode cX12_plantOf 36 = .ok (.aload_n 0, 1) ∧ decode cX12_plantOf 37 = .ok (.getfield 47, 3) ∧ decode cX12_plantOf 40 = .ok (.iload_n 3, 1) ∧ decode cX12_plantOf 41 = .ok (.iaload, 1) ∧ decode cX12_plantOf 42 = .ok (.aload_n 0, 1) ∧ decode cX12_plantOf 43 = .ok (.getfield 47, 3) ∧ decode cX12_plantOf 46 = .ok (.iload_n 2, 1) := by decide +kernel
theorem e_X12_plantOf_3 : decode cX12_plantOf 47 = .ok (.iaload, 1) ∧ decode cX12_plantOf 48 = .ok (.if_icmp .le 5, 3) ∧ decode cX12_plantOf 51 = .ok (.iload_n 3, 1) ∧ decode cX12_plantOf 52 = .ok (.istore_n 2, 1) ∧ decode cX12_plantOf 53 = .ok (.iinc 3 1, 3) ∧ decode cX12_plantOf 56 = .ok (.goto (-46), 3) ∧ decode cX12_plantOf 59 = .ok (.iload_n 2, 1) ∧ decode cX12_plantOf 60 = .ok (.ireturn, 1) := by decide +kernel
abbrev E_X12_plantOf_10 (G : Kg) (l2 l3 : Int) (σ : Kmem) (Q : Int → Kmem → Prop) : Prop := Ex G WM M_X12_plantOf 9 0 0 10 [(0, vA G 0), (2, vI l2), (3, vI l3)] [] σ Q
theorem S_X12_plantOf {G : Kg} {σ : Kmem} {Q : Int → Kmem → Prop} {l1 : Int}  (h : Run G WM M_X12_laysHours 8 0 0 [vA G 0, vI l1, vI (-1)] σ (fun r1 s2 => E_X12_plantOf_10 G (-1) 0 s2 Q)) : Run G WM M_X12_plantOf 9 0 0 [vA G 0, vI l1] σ Q := by
  refine Run.of (by decide +kernel) (by show (2 : Nat) ≤ 4; decide) ?_
  show Ex G WM M_X12_plantOf 9 0 0 0 [(0, vA G 0), (1, vI l1)] [] σ Q
  refine R_aload_n e_X12_plantOf_0.1 0 rfl ?_
  refine R_iload_n e_X12_plantOf_0.2.1 1 rfl ?_
  refine R_iconst e_X12_plantOf_0.2.2.1 ?_
  refine R_callV (mc := 0) (ms := 0) (mc' := 0) (ms' := 0) (M' := M_X12_laysHours) (d' := 8) (as := [vI l1, vI (-1)]) (st := []) 12 2 e_X12_plantOf_0.2.2.2.1 (kCVof m_X12_laysHours l_X12_431) rfl (by decide) km_0 (by decide) (by decide) rfl rfl (by show (0 : Nat) ≤ 8; decide) ?_
  refine Run.mono h (fun r1 s2 h => ?_)
  refine R_eqs (st2 := []) rfl rfl ?_
  refine R_iconst e_X12_plantOf_0.2.2.2.2.1 ?_
  refine R_istore_n (ls2 := [(2, vI (-1)), (0, vA G 0), (1, vI l1)]) e_X12_plantOf_0.2.2.2.2.2.1 (by decide) rfl ?_
  refine R_iconst e_X12_plantOf_0.2.2.2.2.2.2.1 ?_
  refine R_istore_n (ls2 := [(3, vI 0), (2, vI (-1)), (0, vA G 0), (1, vI l1)]) e_X12_plantOf_0.2.2.2.2.2.2.2.1 (by decide) rfl ?_
  refine R_ls (ls2 := [(0, vA G 0), (2, vI (-1)), (3, vI 0)]) [2, 1, 0] rfl ?_
  exact h
theorem S_X12_plantOf_10 {G : Kg} {σ : Kmem} {Q : Int → Kmem → Prop} {l1 l2 l3 : Int}  (h : (rI l3) ∧ ((70 ≤ l3 → Q l2 σ) ∧ (l3 < 70 → (0 ≤ l3 ∧ l3 ≤ 2147483647) ∧ (0 ≤ l3 ∧ l3 ≤ 2147483647) ∧ ((rI (l3 % 10) ∧ rI (l3 / 10)) ∧ wf (σ 1)) ∧ ((¬ (sFld (σ 1) (l3 % 10) (l3 / 10)) → E_X12_plantOf_10 G l2 (l3 + 1) σ Q) ∧ ((sFld (σ 1) (l3 % 10) (l3 / 10)) → (rI l2) ∧ ((l2 = -1 → E_X12_plantOf_10 G l3 (l3 + 1) σ Q) ∧ (l2 ≠ -1 → (0 ≤ l3 ∧ l3 < 70) ∧ (0 ≤ l2 ∧ l2 < 70) ∧ (rI (σ 9 l3)) ∧ (rI (σ 9 l2)) ∧ ((σ 9 l3 ≤ σ 9 l2 → E_X12_plantOf_10 G l2 (l3 + 1) σ Q) ∧ (σ 9 l2 < σ 9 l3 → E_X12_plantOf_10 G l3 (l3 + 1) σ Q))))))))) : E_X12_plantOf_10 G l2 l3 σ Q := by
  refine R_iload_n e_X12_plantOf_0.2.2.2.2.2.2.2.2.1 2 rfl ?_
  refine R_bipush e_X12_plantOf_0.2.2.2.2.2.2.2.2.2 (by decide) ?_
  obtain ⟨q3, h⟩ := h
  refine R_icmp_ge 59 e_X12_plantOf_1.1 (by decide) q3 (by decide) (fun q => ?_) (fun q => ?_)
  · replace h := h.1 q
    refine R_iload_n e_X12_plantOf_3.2.2.2.2.2.2.1 1 rfl ?_
    exact R_ireturn e_X12_plantOf_3.2.2.2.2.2.2.2 rfl h
  · replace h := h.2 q
    refine R_aload_n e_X12_plantOf_1.2.1 0 rfl ?_
    refine R_iload_n e_X12_plantOf_1.2.2.1 2 rfl ?_
    refine R_bipush e_X12_plantOf_1.2.2.2.1 (by decide) ?_
    obtain ⟨q4, h⟩ := h
    refine R_irem e_X12_plantOf_1.2.2.2.2.1 q4 (by decide) ?_
    refine R_iload_n e_X12_plantOf_1.2.2.2.2.2.1 2 rfl ?_
    refine R_bipush e_X12_plantOf_1.2.2.2.2.2.2.1 (by decide) ?_
    obtain ⟨q5, h⟩ := h
    refine R_idiv e_X12_plantOf_1.2.2.2.2.2.2.2.1 q5 (by decide) ?_
    obtain ⟨q8, h⟩ := h
    refine R_callV (mc := 0) (ms := 0) (mc' := 0) (ms' := 0) (M' := M_X12_isField) (d' := 0) (as := [vI (l3 % 10), vI (l3 / 10)]) (st := []) 12 2 e_X12_plantOf_1.2.2.2.2.2.2.2.2.1 (kCVof m_X12_isField l_X12_355) rfl (by decide) km_0 (by decide) (by decide) rfl rfl (by show (0 : Nat) ≤ 8; decide) ?_
    refine Run.mono (P_X12_isField q8) (fun r s e => ?_)
    obtain ⟨e1, e2⟩ := e
    refine R_eqs (st2 := [vI (kb (sFld (σ 1) (l3 % 10) (l3 / 10)))]) (σ2 := σ) (by rw [e1]; rfl) e2 ?_
    refine R_if_eq 53 e_X12_plantOf_1.2.2.2.2.2.2.2.2.2 (by decide) (kb_r _) (fun q => ?_) (fun q => ?_)
    · replace h := h.1 (kb_f q)
      refine R_iinc (ls2 := [(3, vI (l3 + 1)), (0, vA G 0), (2, vI l2)]) e_X12_plantOf_3.2.2.2.2.1 2 rfl (by decide) rfl ?_
      refine R_goto 10 e_X12_plantOf_3.2.2.2.2.2.1 (by decide) ?_
      refine R_ls (ls2 := [(0, vA G 0), (2, vI l2), (3, vI (l3 + 1))]) [1, 2, 0] rfl ?_
      exact h
    · replace h := h.2 (kb_t q)
      refine R_iload_n e_X12_plantOf_2.1 1 rfl ?_
      refine R_iconst e_X12_plantOf_2.2.1 ?_
      obtain ⟨q9, h⟩ := h
      refine R_icmp_eq 51 e_X12_plantOf_2.2.2.1 (by decide) q9 (by decide) (fun q => ?_) (fun q => ?_)
      · replace h := h.1 q
        refine R_iload_n e_X12_plantOf_3.2.2.1 2 rfl ?_
        refine R_istore_n (ls2 := [(2, vI l3), (0, vA G 0), (3, vI l3)]) e_X12_plantOf_3.2.2.2.1 (by decide) rfl ?_
        refine R_iinc (ls2 := [(3, vI (l3 + 1)), (2, vI l3), (0, vA G 0)]) e_X12_plantOf_3.2.2.2.2.1 2 rfl (by decide) rfl ?_
        refine R_goto 10 e_X12_plantOf_3.2.2.2.2.2.1 (by decide) ?_
        refine R_ls (ls2 := [(0, vA G 0), (2, vI l3), (3, vI (l3 + 1))]) [2, 1, 0] rfl ?_
        exact h
      · replace h := h.2 q
        refine R_aload_n e_X12_plantOf_2.2.2.2.1 0 rfl ?_
        refine R_getA 12 24 9 e_X12_plantOf_2.2.2.2.2.1 f_X12_47 km_0 (fun _ _ => rfl) rm_0_24 (by decide) ?_
        refine R_iload_n e_X12_plantOf_2.2.2.2.2.2.1 2 rfl ?_
        obtain ⟨q10, h⟩ := h
        refine R_iald 70 e_X12_plantOf_2.2.2.2.2.2.2.1 kma_9 q10 ?_
        refine R_aload_n e_X12_plantOf_2.2.2.2.2.2.2.2.1 0 rfl ?_
        refine R_getA 12 24 9 e_X12_plantOf_2.2.2.2.2.2.2.2.2.1 f_X12_47 km_0 (fun _ _ => rfl) rm_0_24 (by decide) ?_
        refine R_iload_n e_X12_plantOf_2.2.2.2.2.2.2.2.2.2 1 rfl ?_
        obtain ⟨q11, h⟩ := h
        refine R_iald 70 e_X12_plantOf_3.1 kma_9 q11 ?_
        obtain ⟨q12, h⟩ := h
        obtain ⟨q13, h⟩ := h
        refine R_icmp_le 53 e_X12_plantOf_3.2.1 (by decide) q12 q13 (fun q => ?_) (fun q => ?_)
        · replace h := h.1 q
          refine R_iinc (ls2 := [(3, vI (l3 + 1)), (0, vA G 0), (2, vI l2)]) e_X12_plantOf_3.2.2.2.2.1 2 rfl (by decide) rfl ?_
          refine R_goto 10 e_X12_plantOf_3.2.2.2.2.2.1 (by decide) ?_
          refine R_ls (ls2 := [(0, vA G 0), (2, vI l2), (3, vI (l3 + 1))]) [1, 2, 0] rfl ?_
          exact h
        · replace h := h.2 q
          refine R_iload_n e_X12_plantOf_3.2.2.1 2 rfl ?_
          refine R_istore_n (ls2 := [(2, vI l3), (0, vA G 0), (3, vI l3)]) e_X12_plantOf_3.2.2.2.1 (by decide) rfl ?_
          refine R_iinc (ls2 := [(3, vI (l3 + 1)), (2, vI l3), (0, vA G 0)]) e_X12_plantOf_3.2.2.2.2.1 2 rfl (by decide) rfl ?_
          refine R_goto 10 e_X12_plantOf_3.2.2.2.2.2.1 (by decide) ?_
          refine R_ls (ls2 := [(0, vA G 0), (2, vI l3), (3, vI (l3 + 1))]) [2, 1, 0] rfl ?_
          exact h
/-! KiteLandModel.goesOn(I)V -/
theorem e_X12_goesOn_0 : decode cX12_goesOn 0 = .ok (.iconst 0, 1) ∧ decode cX12_goesOn 1 = .ok (.istore_n 2, 1) ∧ decode cX12_goesOn 2 = .ok (.iload_n 2, 1) ∧ decode cX12_goesOn 3 = .ok (.iload_n 1, 1) ∧ decode cX12_goesOn 4 = .ok (.if_icmp .ge 14, 3) ∧ decode cX12_goesOn 7 = .ok (.aload_n 0, 1) ∧ decode cX12_goesOn 8 = .ok (.invokevirtual 397, 3) ∧ decode cX12_goesOn 11 = .ok (.pop, 1) ∧ decode cX12_goesOn 12 = .ok (.iinc 2 1, 3) ∧ decode cX12_goesOn 15 = .ok (.goto (-13), 3) := by decide +kernel
theorem e_X12_goesOn_1 : decode cX12_goesOn 18 = .ok (.return_, 1) := by decide +kernel
abbrev E_X12_goesOn_2 (G : Kg) (l1 l2 : Int) (σ : Kmem) (Q : Int → Kmem → Prop) : Prop := Ex G WM M_X12_goesOn 9 0 0 2 [(0, vA G 0), (1, vI l1), (2, vI l2)] [] σ Q
theorem S_X12_goesOn {G : Kg} {σ : Kmem} {Q : Int → Kmem → Prop} {l1 : Int}  (h : E_X12_goesOn_2 G l1 0 σ Q) : Run G WM M_X12_goesOn 9 0 0 [vA G 0, vI l1] σ Q := by
  refine Run.of (by decide +kernel) (by show (2 : Nat) ≤ 3; decide) ?_
  show Ex G WM M_X12_goesOn 9 0 0 0 [(0, vA G 0), (1, vI l1)] [] σ Q
  refine R_iconst e_X12_goesOn_0.1 ?_
  refine R_istore_n (ls2 := [(2, vI 0), (0, vA G 0), (1, vI l1)]) e_X12_goesOn_0.2.1 (by decide) rfl ?_
  refine R_ls (ls2 := [(0, vA G 0), (1, vI l1), (2, vI 0)]) [1, 2, 0] rfl ?_
  exact h
theorem S_X12_goesOn_2 {G : Kg} {σ : Kmem} {Q : Int → Kmem → Prop} {l1 l2 : Int}  (h : (rI l2) ∧ (rI l1) ∧ ((l1 ≤ l2 → Q 0 σ) ∧ (l2 < l1 → Run G WM M_X12_goesBy 8 0 0 [vA G 0] σ (fun r3 s4 => E_X12_goesOn_2 G l1 (l2 + 1) s4 Q)))) : E_X12_goesOn_2 G l1 l2 σ Q := by
  refine R_iload_n e_X12_goesOn_0.2.2.1 2 rfl ?_
  refine R_iload_n e_X12_goesOn_0.2.2.2.1 1 rfl ?_
  obtain ⟨q1, h⟩ := h
  obtain ⟨q2, h⟩ := h
  refine R_icmp_ge 18 e_X12_goesOn_0.2.2.2.2.1 (by decide) q1 q2 (fun q => ?_) (fun q => ?_)
  · replace h := h.1 q
    exact R_return e_X12_goesOn_1 rfl h
  · replace h := h.2 q
    refine R_aload_n e_X12_goesOn_0.2.2.2.2.2.1 0 rfl ?_
    refine R_callV (mc := 0) (ms := 0) (mc' := 0) (ms' := 0) (M' := M_X12_goesBy) (d' := 8) (as := []) (st := []) 12 0 e_X12_goesOn_0.2.2.2.2.2.2.1 (kCVof m_X12_goesBy l_X12_397) rfl (by decide) km_0 (by decide) (by decide) rfl rfl (by show (0 : Nat) ≤ 8; decide) ?_
    refine Run.mono h (fun r3 s4 h => ?_)
    refine R_eqs (st2 := [vI r3]) rfl rfl ?_
    refine R_pop e_X12_goesOn_0.2.2.2.2.2.2.2.1 rfl ?_
    refine R_iinc (ls2 := [(2, vI (l2 + 1)), (0, vA G 0), (1, vI l1)]) e_X12_goesOn_0.2.2.2.2.2.2.2.2.1 2 rfl (by decide) rfl ?_
    refine R_goto 2 e_X12_goesOn_0.2.2.2.2.2.2.2.2.2 (by decide) ?_
    refine R_ls (ls2 := [(0, vA G 0), (1, vI l1), (2, vI (l2 + 1))]) [1, 2, 0] rfl ?_
    exact h
