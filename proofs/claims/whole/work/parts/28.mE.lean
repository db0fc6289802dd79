/-! KiteLandModel.estateOf(II)I -/
theorem e_X12_estateOf_0 : decode cX12_estateOf 0 = .ok (.iconst 0, 1) ∧ decode cX12_estateOf 1 = .ok (.istore_n 3, 1) ∧ decode cX12_estateOf 2 = .ok (.iconst 0, 1) ∧ decode cX12_estateOf 3 = .ok (.istore 4, 2) ∧ decode cX12_estateOf 5 = .ok (.iload 4, 2) ∧ decode cX12_estateOf 7 = .ok (.aload_n 0, 1) ∧ decode cX12_estateOf 8 = .ok (.getfield 7, 3) ∧ decode cX12_estateOf 11 = .ok (.iconst 0, 1) ∧ decode cX12_estateOf 12 = .ok (.iaload, 1) ∧ decode cX12_estateOf 13 = .ok (.if_icmp .ge 50, 3) := by decide +kernel
theorem e_X12_estateOf_1 : decode cX12_estateOf 16 = .ok (.iconst 0, 1) ∧ decode cX12_estateOf 17 = .ok (.istore 5, 2) ∧ decode cX12_estateOf 19 = .ok (.iload 5, 2) ∧ decode cX12_estateOf 21 = .ok (.aload_n 0, 1) ∧ decode cX12_estateOf 22 = .ok (.getfield 7, 3) ∧ decode cX12_estateOf 25 = .ok (.iconst 1, 1) ∧ decode cX12_estateOf 26 = .ok (.iaload, 1) ∧ decode cX12_estateOf 27 = .ok (.if_icmp .ge 30, 3) ∧ decode cX12_estateOf 30 = .ok (.iload_n 3, 1) ∧ decode cX12_estateOf 31 = .ok (.aload_n 0, 1) := by decide +kernel
theorem e_X12_estateOf_2 : decode cX12_estateOf 32 = .ok (.iload 4, 2) ∧ decode cX12_estateOf 34 = .ok (.iload 5, 2) ∧ decode cX12_estateOf 36 = .ok (.iload_n 2, 1) ∧ decode cX12_estateOf 37 = .ok (.invokevirtual 312, 3) ∧ decode cX12_estateOf 40 = .ok (.iload_n 1, 1) ∧ decode cX12_estateOf 41 = .ok (.if_icmp .ne 7, 3) ∧ decode cX12_estateOf 44 = .ok (.iconst 1, 1) ∧ decode cX12_estateOf 45 = .ok (.goto 4, 3) ∧ decode cX12_estateOf 48 = .ok (.iconst 0, 1) ∧ decode cX12_estateOf 49 = .ok (.iadd, 1) := by decide +kernel
theorem e_X12_estateOf_3 : decode cX12_estateOf 50 = .ok (.istore_n 3, 1) ∧ decode cX12_estateOf 51 = .ok (.iinc 5 1, 3) ∧ decode cX12_estateOf 54 = .ok (.goto (-35), 3) ∧ decode cX12_estateOf 57 = .ok (.iinc 4 1, 3) ∧ decode cX12_estateOf 60 = .ok (.goto (-55), 3) ∧ decode cX12_estateOf 63 = .ok (.iload_n 3, 1) ∧ decode cX12_estateOf 64 = .ok (.ireturn, 1) := by decide +kernel
abbrev E_X12_estateOf_5 (G : Kg) (l1 l2 l3 l4 : Int) (σ : Kmem) (Q : Int → Kmem → Prop) : Prop := Ex G WM M_X12_estateOf 7 0 0 5 [(0, vA G 0), (1, vI l1), (2, vI l2), (3, vI l3), (4, vI l4)] [] σ Q
abbrev E_X12_estateOf_19 (G : Kg) (l1 l2 l3 l4 l5 : Int) (σ : Kmem) (Q : Int → Kmem → Prop) : Prop := Ex G WM M_X12_estateOf 7 0 0 19 [(0, vA G 0), (1, vI l1), (2, vI l2), (3, vI l3), (4, vI l4), (5, vI l5)] [] σ Q
theorem S_X12_estateOf {G : Kg} {σ : Kmem} {Q : Int → Kmem → Prop} {l1 l2 : Int}  (h : E_X12_estateOf_5 G l1 l2 0 0 σ Q) : Run G WM M_X12_estateOf 7 0 0 [vA G 0, vI l1, vI l2] σ Q := by
  refine Run.of (by decide +kernel) (by show (3 : Nat) ≤ 6; decide) ?_
  show Ex G WM M_X12_estateOf 7 0 0 0 [(0, vA G 0), (1, vI l1), (2, vI l2)] [] σ Q
  refine R_iconst e_X12_estateOf_0.1 ?_
  refine R_istore_n (ls2 := [(3, vI 0), (0, vA G 0), (1, vI l1), (2, vI l2)]) e_X12_estateOf_0.2.1 (by decide) rfl ?_
  refine R_iconst e_X12_estateOf_0.2.2.1 ?_
  refine R_istore (ls2 := [(4, vI 0), (3, vI 0), (0, vA G 0), (1, vI l1), (2, vI l2)]) e_X12_estateOf_0.2.2.2.1 (by decide) rfl ?_
  refine R_ls (ls2 := [(0, vA G 0), (1, vI l1), (2, vI l2), (3, vI 0), (4, vI 0)]) [2, 3, 4, 1, 0] rfl ?_
  exact h
theorem S_X12_estateOf_5 {G : Kg} {σ : Kmem} {Q : Int → Kmem → Prop} {l1 l2 l3 l4 : Int}  (h : (rI l4) ∧ (rI (σ 1 0)) ∧ ((σ 1 0 ≤ l4 → Q l3 σ) ∧ (l4 < σ 1 0 → E_X12_estateOf_19 G l1 l2 l3 l4 0 σ Q))) : E_X12_estateOf_5 G l1 l2 l3 l4 σ Q := by
  refine R_iload e_X12_estateOf_0.2.2.2.2.1 4 rfl ?_
  refine R_aload_n e_X12_estateOf_0.2.2.2.2.2.1 0 rfl ?_
  refine R_getA 12 0 1 e_X12_estateOf_0.2.2.2.2.2.2.1 f_X12_7 km_0 (fun _ _ => rfl) rm_0_0 (by decide) ?_
  refine R_iconst e_X12_estateOf_0.2.2.2.2.2.2.2.1 ?_
  refine R_iald 3598 e_X12_estateOf_0.2.2.2.2.2.2.2.2.1 kma_1 (by decide) ?_
  obtain ⟨q1, h⟩ := h
  obtain ⟨q2, h⟩ := h
  refine R_icmp_ge 63 e_X12_estateOf_0.2.2.2.2.2.2.2.2.2 (by decide) q1 q2 (fun q => ?_) (fun q => ?_)
  · replace h := h.1 q
    refine R_iload_n e_X12_estateOf_3.2.2.2.2.2.1 3 rfl ?_
    exact R_ireturn e_X12_estateOf_3.2.2.2.2.2.2 rfl h
  · replace h := h.2 q
    refine R_iconst e_X12_estateOf_1.1 ?_
    refine R_istore (ls2 := [(5, vI 0), (0, vA G 0), (1, vI l1), (2, vI l2), (3, vI l3), (4, vI l4)]) e_X12_estateOf_1.2.1 (by decide) rfl ?_
    refine R_ls (ls2 := [(0, vA G 0), (1, vI l1), (2, vI l2), (3, vI l3), (4, vI l4), (5, vI 0)]) [1, 2, 3, 4, 5, 0] rfl ?_
    exact h
theorem S_X12_estateOf_19 {G : Kg} {σ : Kmem} {Q : Int → Kmem → Prop} {l1 l2 l3 l4 l5 : Int}  (h : (rI l5) ∧ (rI (σ 1 1)) ∧ ((σ 1 1 ≤ l5 → E_X12_estateOf_5 G l1 l2 l3 (l4 + 1) σ Q) ∧ (l5 < σ 1 1 → (wf (σ 1) ∧ ((0 : Int) ≤ l4 ∧ (l4 : Int) ≤ 100) ∧ ((0 : Int) ≤ l5 ∧ (l5 : Int) ≤ 100) ∧ sHr (l2)) ∧ (rI (sOwn (σ 1) (l4) (l5) (l2))) ∧ (rI l1) ∧ ((sOwn (σ 1) (l4) (l5) (l2) ≠ l1 → E_X12_estateOf_19 G l1 l2 (l3 + 0) l4 (l5 + 1) σ Q) ∧ (sOwn (σ 1) (l4) (l5) (l2) = l1 → E_X12_estateOf_19 G l1 l2 (l3 + 1) l4 (l5 + 1) σ Q))))) : E_X12_estateOf_19 G l1 l2 l3 l4 l5 σ Q := by
  refine R_iload e_X12_estateOf_1.2.2.1 5 rfl ?_
  refine R_aload_n e_X12_estateOf_1.2.2.2.1 0 rfl ?_
  refine R_getA 12 0 1 e_X12_estateOf_1.2.2.2.2.1 f_X12_7 km_0 (fun _ _ => rfl) rm_0_0 (by decide) ?_
  refine R_iconst e_X12_estateOf_1.2.2.2.2.2.1 ?_
  refine R_iald 3598 e_X12_estateOf_1.2.2.2.2.2.2.1 kma_1 (by decide) ?_
  obtain ⟨q3, h⟩ := h
  obtain ⟨q4, h⟩ := h
  refine R_icmp_ge 57 e_X12_estateOf_1.2.2.2.2.2.2.2.1 (by decide) q3 q4 (fun q => ?_) (fun q => ?_)
  · replace h := h.1 q
    refine R_iinc (ls2 := [(4, vI (l4 + 1)), (0, vA G 0), (1, vI l1), (2, vI l2), (3, vI l3), (5, vI l5)]) e_X12_estateOf_3.2.2.2.1 4 rfl (by decide) rfl ?_
    refine R_goto 5 e_X12_estateOf_3.2.2.2.2.1 (by decide) ?_
    refine R_ls (ls2 := [(0, vA G 0), (1, vI l1), (2, vI l2), (3, vI l3), (4, vI (l4 + 1))]) [1, 2, 3, 4, 0] rfl ?_
    exact h
  · replace h := h.2 q
    refine R_iload_n e_X12_estateOf_1.2.2.2.2.2.2.2.2.1 3 rfl ?_
    refine R_aload_n e_X12_estateOf_1.2.2.2.2.2.2.2.2.2 0 rfl ?_
    refine R_iload e_X12_estateOf_2.1 4 rfl ?_
    refine R_iload e_X12_estateOf_2.2.1 5 rfl ?_
    refine R_iload_n e_X12_estateOf_2.2.2.1 2 rfl ?_
    obtain ⟨q7, h⟩ := h
    refine R_callV (mc := 0) (ms := 0) (mc' := 0) (ms' := 0) (M' := M_X12_ownerOf) (d' := 6) (as := [vI l4, vI l5, vI l2]) (st := [vI l3]) 12 3 e_X12_estateOf_2.2.2.2.1 (kCVof m_X12_ownerOf l_X12_312) rfl (by decide) km_0 (by decide) (by decide) rfl rfl (by show (1 : Nat) ≤ 8; decide) ?_
    refine Run.mono (P_X12_ownerOf q7) (fun r s e => ?_)
    obtain ⟨e1, e2⟩ := e
    refine R_eqs (st2 := [vI (sOwn (σ 1) (l4) (l5) (l2)), vI l3]) (σ2 := σ) (by rw [e1]; rfl) e2 ?_
    refine R_iload_n e_X12_estateOf_2.2.2.2.2.1 1 rfl ?_
    obtain ⟨q8, h⟩ := h
    obtain ⟨q9, h⟩ := h
    refine R_icmp_ne 48 e_X12_estateOf_2.2.2.2.2.2.1 (by decide) q8 q9 (fun q => ?_) (fun q => ?_)
    · replace h := h.1 q
      refine R_iconst e_X12_estateOf_2.2.2.2.2.2.2.2.2.1 ?_
      refine R_iadd e_X12_estateOf_2.2.2.2.2.2.2.2.2.2 ?_
      refine R_istore_n (ls2 := [(3, vI (l3 + 0)), (0, vA G 0), (1, vI l1), (2, vI l2), (4, vI l4), (5, vI l5)]) e_X12_estateOf_3.1 (by decide) rfl ?_
      refine R_iinc (ls2 := [(5, vI (l5 + 1)), (3, vI (l3 + 0)), (0, vA G 0), (1, vI l1), (2, vI l2), (4, vI l4)]) e_X12_estateOf_3.2.1 5 rfl (by decide) rfl ?_
      refine R_goto 19 e_X12_estateOf_3.2.2.1 (by decide) ?_
      refine R_ls (ls2 := [(0, vA G 0), (1, vI l1), (2, vI l2), (3, vI (l3 + 0)), (4, vI l4), (5, vI (l5 + 1))]) [2, 3, 4, 1, 5, 0] rfl ?_
      exact h
    · replace h := h.2 q
      refine R_iconst e_X12_estateOf_2.2.2.2.2.2.2.1 ?_
      refine R_goto 49 e_X12_estateOf_2.2.2.2.2.2.2.2.1 (by decide) ?_
      refine R_iadd e_X12_estateOf_2.2.2.2.2.2.2.2.2.2 ?_
      refine R_istore_n (ls2 := [(3, vI (l3 + 1)), (0, vA G 0), (1, vI l1), (2, vI l2), (4, vI l4), (5, vI l5)]) e_X12_estateOf_3.1 (by decide) rfl ?_
      refine R_iinc (ls2 := [(5, vI (l5 + 1)), (3, vI (l3 + 1)), (0, vA G 0), (1, vI l1), (2, vI l2), (4, vI l4)]) e_X12_estateOf_3.2.1 5 rfl (by decide) rfl ?_
      refine R_goto 19 e_X12_estateOf_3.2.2.1 (by decide) ?_
      refine R_ls (ls2 := [(0, vA G 0), (1, vI l1), (2, vI l2), (3, vI (l3 + 1)), (4, vI l4), (5, vI (l5 + 1))]) [2, 3, 4, 1, 5, 0] rfl ?_
      exact h
/-! KiteLandModel.side(IIIIII)I -/
theorem e_X12_side_0 : decode cX12_side 0 = .ok (.iload_n 2, 1) ∧ decode cX12_side 1 = .ok (.iload_n 0, 1) ∧ decode cX12_side 2 = .ok (.isub, 1) ∧ decode cX12_side 3 = .ok (.iload 5, 2) ∧ decode cX12_side 5 = .ok (.iload_n 1, 1) ∧ decode cX12_side 6 = .ok (.isub, 1) ∧ decode cX12_side 7 = .ok (.imul, 1) ∧ decode cX12_side 8 = .ok (.iload_n 3, 1) ∧ decode cX12_side 9 = .ok (.iload_n 1, 1) ∧ decode cX12_side 10 = .ok (.isub, 1) := by decide +kernel
theorem e_X12_side_1 : decode cX12_side 11 = .ok (.iload 4, 2) ∧ decode cX12_side 13 = .ok (.iload_n 0, 1) ∧ decode cX12_side 14 = .ok (.isub, 1) ∧ decode cX12_side 15 = .ok (.imul, 1) ∧ decode cX12_side 16 = .ok (.isub, 1) ∧ decode cX12_side 17 = .ok (.istore 6, 2) ∧ decode cX12_side 19 = .ok (.iload 6, 2) ∧ decode cX12_side 21 = .ok (.ifCond .le 7, 3) ∧ decode cX12_side 24 = .ok (.iconst 1, 1) ∧ decode cX12_side 25 = .ok (.goto 13, 3) := by decide +kernel
theorem e_X12_side_2 : decode cX12_side 28 = .ok (.iload 6, 2) ∧ decode cX12_side 30 = .ok (.ifCond .ge 7, 3) ∧ decode cX12_side 33 = .ok (.iconst (-1), 1) ∧ decode cX12_side 34 = .ok (.goto 4, 3) ∧ decode cX12_side 37 = .ok (.iconst 0, 1) ∧ decode cX12_side 38 = .ok (.ireturn, 1) := by decide +kernel
theorem S_X12_side {G : Kg} {σ : Kmem} {Q : Int → Kmem → Prop} {l0 l1 l2 l3 l4 l5 : Int}  (h : (rI (((l2 - l0) * (l5 - l1)) - ((l3 - l1) * (l4 - l0)))) ∧ ((((l2 - l0) * (l5 - l1)) - ((l3 - l1) * (l4 - l0)) ≤ 0 → ((0 ≤ ((l2 - l0) * (l5 - l1)) - ((l3 - l1) * (l4 - l0)) → Q 0 σ) ∧ (((l2 - l0) * (l5 - l1)) - ((l3 - l1) * (l4 - l0)) < 0 → Q (-1) σ))) ∧ (0 < ((l2 - l0) * (l5 - l1)) - ((l3 - l1) * (l4 - l0)) → Q 1 σ))) : Run G WM M_X12_side 0 0 0 [vI l0, vI l1, vI l2, vI l3, vI l4, vI l5] σ Q := by
  refine Run.of (by decide +kernel) (by show (6 : Nat) ≤ 7; decide) ?_
  show Ex G WM M_X12_side 0 0 0 0 [(0, vI l0), (1, vI l1), (2, vI l2), (3, vI l3), (4, vI l4), (5, vI l5)] [] σ Q
  refine R_iload_n e_X12_side_0.1 2 rfl ?_
  refine R_iload_n e_X12_side_0.2.1 0 rfl ?_
  refine R_isub e_X12_side_0.2.2.1 ?_
  refine R_iload e_X12_side_0.2.2.2.1 5 rfl ?_
  refine R_iload_n e_X12_side_0.2.2.2.2.1 1 rfl ?_
  refine R_isub e_X12_side_0.2.2.2.2.2.1 ?_
  refine R_imul e_X12_side_0.2.2.2.2.2.2.1 ?_
  refine R_iload_n e_X12_side_0.2.2.2.2.2.2.2.1 3 rfl ?_
  refine R_iload_n e_X12_side_0.2.2.2.2.2.2.2.2.1 1 rfl ?_
  refine R_isub e_X12_side_0.2.2.2.2.2.2.2.2.2 ?_
  refine R_iload e_X12_side_1.1 4 rfl ?_
  refine R_iload_n e_X12_side_1.2.1 0 rfl ?_
  refine R_isub e_X12_side_1.2.2.1 ?_
  refine R_imul e_X12_side_1.2.2.2.1 ?_
  refine R_isub e_X12_side_1.2.2.2.2.1 ?_
  refine R_istore (ls2 := [(6, vI (((l2 - l0) * (l5 - l1)) - ((l3 - l1) * (l4 - l0)))), (0, vI l0), (1, vI l1), (2, vI l2), (3, vI l3), (4, vI l4), (5, vI l5)]) e_X12_side_1.2.2.2.2.2.1 (by decide) rfl ?_
  refine R_iload e_X12_side_1.2.2.2.2.2.2.1 0 rfl ?_
  obtain ⟨q1, h⟩ := h
  refine R_if_le 28 e_X12_side_1.2.2.2.2.2.2.2.1 (by decide) q1  (fun q => ?_) (fun q => ?_)
  · replace h := h.1 q
    refine R_iload e_X12_side_2.1 0 rfl ?_
    refine R_if_ge 37 e_X12_side_2.2.1 (by decide) q1  (fun q => ?_) (fun q => ?_)
    · replace h := h.1 q
      refine R_iconst e_X12_side_2.2.2.2.2.1 ?_
      exact R_ireturn e_X12_side_2.2.2.2.2.2 rfl h
    · replace h := h.2 q
      refine R_iconst e_X12_side_2.2.2.1 ?_
      refine R_goto 38 e_X12_side_2.2.2.2.1 (by decide) ?_
      exact R_ireturn e_X12_side_2.2.2.2.2.2 rfl h
  · replace h := h.2 q
    refine R_iconst e_X12_side_1.2.2.2.2.2.2.2.2.1 ?_
    refine R_goto 38 e_X12_side_1.2.2.2.2.2.2.2.2.2 (by decide) ?_
    exact R_ireturn e_X12_side_2.2.2.2.2.2 rfl h
/-! KiteLandModel.parts(III)Z -/
theorem e_X12_parts_0 : decode cX12_parts 0 = .ok (.aload_n 0, 1) ∧ decode cX12_parts 1 = .ok (.iload_n 1, 1) ∧ decode cX12_parts 2 = .ok (.iconst 0, 1) ∧ decode cX12_parts 3 = .ok (.invokevirtual 268, 3) ∧ decode cX12_parts 6 = .ok (.aload_n 0, 1) ∧ decode cX12_parts 7 = .ok (.iload_n 1, 1) ∧ decode cX12_parts 8 = .ok (.iconst 1, 1) ∧ decode cX12_parts 9 = .ok (.invokevirtual 268, 3) ∧ decode cX12_parts 12 = .ok (.aload_n 0, 1) ∧ decode cX12_parts 13 = .ok (.iload_n 1, 1) := by decide +kernel
theorem e_X12_parts_1 : decode cX12_parts 14 = .ok (.iload_n 3, 1) ∧ decode cX12_parts 15 = .ok (.invokevirtual 286, 3) ∧ decode cX12_parts 18 = .ok (.aload_n 0, 1) ∧ decode cX12_parts 19 = .ok (.iload_n 1, 1) ∧ decode cX12_parts 20 = .ok (.iload_n 3, 1) ∧ decode cX12_parts 21 = .ok (.invokevirtual 292, 3) ∧ decode cX12_parts 24 = .ok (.aload_n 0, 1) ∧ decode cX12_parts 25 = .ok (.iload_n 2, 1) ∧ decode cX12_parts 26 = .ok (.iconst 0, 1) ∧ decode cX12_parts 27 = .ok (.invokevirtual 268, 3) := by decide +kernel
theorem e_X12_parts_2 : decode cX12_parts 30 = .ok (.aload_n 0, 1) ∧ decode cX12_parts 31 = .ok (.iload_n 2, 1) ∧ decode cX12_parts 32 = .ok (.iconst 1, 1) ∧ decode cX12_parts 33 = .ok (.invokevirtual 268, 3) ∧ decode cX12_parts 36 = .ok (.invokestatic 315, 3) ∧ decode cX12_parts 39 = .ok (.istore 4, 2) ∧ decode cX12_parts 41 = .ok (.iload 4, 2) ∧ decode cX12_parts 43 = .ok (.aload_n 0, 1) ∧ decode cX12_parts 44 = .ok (.iload_n 1, 1) ∧ decode cX12_parts 45 = .ok (.iconst 0, 1) := by decide +kernel
theorem e_X12_parts_3 : decode cX12_parts 46 = .ok (.invokevirtual 268, 3) ∧ decode cX12_parts 49 = .ok (.aload_n 0, 1) ∧ decode cX12_parts 50 = .ok (.iload_n 1, 1) ∧ decode cX12_parts 51 = .ok (.iconst 1, 1) ∧ decode cX12_parts 52 = .ok (.invokevirtual 268, 3) ∧ decode cX12_parts 55 = .ok (.aload_n 0, 1) ∧ decode cX12_parts 56 = .ok (.iload_n 1, 1) ∧ decode cX12_parts 57 = .ok (.iload_n 3, 1) ∧ decode cX12_parts 58 = .ok (.invokevirtual 286, 3) ∧ decode cX12_parts 61 = .ok (.aload_n 0, 1) := by decide +kernel
theorem e_X12_parts_4 : decode cX12_parts 62 = .ok (.iload_n 1, 1) ∧ decode cX12_parts 63 = .ok (.iload_n 3, 1) ∧ decode cX12_parts 64 = .ok (.invokevirtual 292, 3) ∧ decode cX12_parts 67 = .ok (.aload_n 0, 1) ∧ decode cX12_parts 68 = .ok (.iload_n 2, 1) ∧ decode cX12_parts 69 = .ok (.iload_n 3, 1) ∧ decode cX12_parts 70 = .ok (.invokevirtual 286, 3) ∧ decode cX12_parts 73 = .ok (.aload_n 0, 1) ∧ decode cX12_parts 74 = .ok (.iload_n 2, 1) ∧ decode cX12_parts 75 = .ok (.iload_n 3, 1) := by decide +kernel
theorem e_X12_parts_5 : decode cX12_parts 76 = .ok (.invokevirtual 292, 3) ∧ decode cX12_parts 79 = .ok (.invokestatic 315, 3) ∧ decode cX12_parts 82 = .ok (.imul, 1) ∧ decode cX12_parts 83 = .ok (.ifCond .ge 7, 3) ∧ decode cX12_parts 86 = .ok (.iconst 1, 1) ∧ decode cX12_parts 87 = .ok (.goto 4, 3) ∧ decode cX12_parts 90 = .ok (.iconst 0, 1) ∧ decode cX12_parts 91 = .ok (.ireturn, 1) := by decide +kernel
theorem S_X12_parts {G : Kg} {σ : Kmem} {Q : Int → Kmem → Prop} {l1 l2 l3 : Int}  (h : (0 ≤ (34 + (9 * l1)) + 0 ∧ (34 + (9 * l1)) + 0 < 3598) ∧ (0 ≤ (34 + (9 * l1)) + 1 ∧ (34 + (9 * l1)) + 1 < 3598) ∧ (wf (σ 1) ∧ sKt (σ 1) (l1) ∧ sHr (l3)) ∧ (wf (σ 1) ∧ sKt (σ 1) (l1) ∧ sHr (l3)) ∧ (0 ≤ (34 + (9 * l2)) + 0 ∧ (34 + (9 * l2)) + 0 < 3598) ∧ (0 ≤ (34 + (9 * l2)) + 1 ∧ (34 + (9 * l2)) + 1 < 3598) ∧ Run G WM M_X12_side 0 0 0 [vI (σ 1 ((34 + (9 * l1)) + 0)), vI (σ 1 ((34 + (9 * l1)) + 1)), vI (sCol (σ 1) (l1) (l3)), vI (sRow (σ 1) (l1) (l3)), vI (σ 1 ((34 + (9 * l2)) + 0)), vI (σ 1 ((34 + (9 * l2)) + 1))] σ (fun r27 s28 => (0 ≤ (34 + (9 * l1)) + 0 ∧ (34 + (9 * l1)) + 0 < 3598) ∧ (0 ≤ (34 + (9 * l1)) + 1 ∧ (34 + (9 * l1)) + 1 < 3598) ∧ (wf (s28 1) ∧ sKt (s28 1) (l1) ∧ sHr (l3)) ∧ (wf (s28 1) ∧ sKt (s28 1) (l1) ∧ sHr (l3)) ∧ (wf (s28 1) ∧ sKt (s28 1) (l2) ∧ sHr (l3)) ∧ (wf (s28 1) ∧ sKt (s28 1) (l2) ∧ sHr (l3)) ∧ Run G WM M_X12_side 0 0 0 [vI (s28 1 ((34 + (9 * l1)) + 0)), vI (s28 1 ((34 + (9 * l1)) + 1)), vI (sCol (s28 1) (l1) (l3)), vI (sRow (s28 1) (l1) (l3)), vI (sCol (s28 1) (l2) (l3)), vI (sRow (s28 1) (l2) (l3))] s28 (fun r51 s52 => (rI (r27 * r51)) ∧ ((0 ≤ r27 * r51 → Q 0 s52) ∧ (r27 * r51 < 0 → Q 1 s52))))) : Run G WM M_X12_parts 4 0 0 [vA G 0, vI l1, vI l2, vI l3] σ Q := by
  refine Run.of (by decide +kernel) (by show (4 : Nat) ≤ 5; decide) ?_
  show Ex G WM M_X12_parts 4 0 0 0 [(0, vA G 0), (1, vI l1), (2, vI l2), (3, vI l3)] [] σ Q
  refine R_aload_n e_X12_parts_0.1 0 rfl ?_
  refine R_iload_n e_X12_parts_0.2.1 1 rfl ?_
  refine R_iconst e_X12_parts_0.2.2.1 ?_
  refine R_callV (mc := 0) (ms := 0) (mc' := 0) (ms' := 0) (M' := M_X12_of) (d' := 1) (as := [vI l1, vI 0]) (st := []) 12 2 e_X12_parts_0.2.2.2.1 (kCVof m_X12_of l_X12_268) rfl (by decide) km_0 (by decide) (by decide) rfl rfl (by show (0 : Nat) ≤ 8; decide) ?_
  obtain ⟨q5, h⟩ := h
  refine S_X12_of ⟨q5, ?_⟩
  refine R_eqs (st2 := [vI (σ 1 ((34 + (9 * l1)) + 0))]) (σ2 := σ) rfl rfl ?_
  refine R_aload_n e_X12_parts_0.2.2.2.2.1 0 rfl ?_
  refine R_iload_n e_X12_parts_0.2.2.2.2.2.1 1 rfl ?_
  refine R_iconst e_X12_parts_0.2.2.2.2.2.2.1 ?_
  refine R_callV (mc := 0) (ms := 0) (mc' := 0) (ms' := 0) (M' := M_X12_of) (d' := 1) (as := [vI l1, vI 1]) (st := [vI (σ 1 ((34 + (9 * l1)) + 0))]) 12 2 e_X12_parts_0.2.2.2.2.2.2.2.1 (kCVof m_X12_of l_X12_268) rfl (by decide) km_0 (by decide) (by decide) rfl rfl (by show (1 : Nat) ≤ 8; decide) ?_
  obtain ⟨q10, h⟩ := h
  refine S_X12_of ⟨q10, ?_⟩
  refine R_eqs (st2 := [vI (σ 1 ((34 + (9 * l1)) + 1)), vI (σ 1 ((34 + (9 * l1)) + 0))]) (σ2 := σ) rfl rfl ?_
  refine R_aload_n e_X12_parts_0.2.2.2.2.2.2.2.2.1 0 rfl ?_
  refine R_iload_n e_X12_parts_0.2.2.2.2.2.2.2.2.2 1 rfl ?_
  refine R_iload_n e_X12_parts_1.1 3 rfl ?_
  obtain ⟨q13, h⟩ := h
  refine R_callV (mc := 0) (ms := 0) (mc' := 0) (ms' := 0) (M' := M_X12_columnOf) (d' := 3) (as := [vI l1, vI l3]) (st := [vI (σ 1 ((34 + (9 * l1)) + 1)), vI (σ 1 ((34 + (9 * l1)) + 0))]) 12 2 e_X12_parts_1.2.1 (kCVof m_X12_columnOf l_X12_286) rfl (by decide) km_0 (by decide) (by decide) rfl rfl (by show (2 : Nat) ≤ 8; decide) ?_
  refine Run.mono (P_X12_columnOf q13) (fun r s e => ?_)
  obtain ⟨e1, e2⟩ := e
  refine R_eqs (st2 := [vI (sCol (σ 1) (l1) (l3)), vI (σ 1 ((34 + (9 * l1)) + 1)), vI (σ 1 ((34 + (9 * l1)) + 0))]) (σ2 := σ) (by rw [e1]; rfl) e2 ?_
  refine R_aload_n e_X12_parts_1.2.2.1 0 rfl ?_
  refine R_iload_n e_X12_parts_1.2.2.2.1 1 rfl ?_
  refine R_iload_n e_X12_parts_1.2.2.2.2.1 3 rfl ?_
  obtain ⟨q16, h⟩ := h
  refine R_callV (mc := 0) (ms := 0) (mc' := 0) (ms' := 0) (M' := M_X12_rowOf) (d' := 3) (as := [vI l1, vI l3]) (st := [vI (sCol (σ 1) (l1) (l3)), vI (σ 1 ((34 + (9 * l1)) + 1)), vI (σ 1 ((34 + (9 * l1)) + 0))]) 12 2 e_X12_parts_1.2.2.2.2.2.1 (kCVof m_X12_rowOf l_X12_292) rfl (by decide) km_0 (by decide) (by decide) rfl rfl (by show (3 : Nat) ≤ 8; decide) ?_
  refine Run.mono (P_X12_rowOf q16) (fun r s e => ?_)
  obtain ⟨e1, e2⟩ := e
  refine R_eqs (st2 := [vI (sRow (σ 1) (l1) (l3)), vI (sCol (σ 1) (l1) (l3)), vI (σ 1 ((34 + (9 * l1)) + 1)), vI (σ 1 ((34 + (9 * l1)) + 0))]) (σ2 := σ) (by rw [e1]; rfl) e2 ?_
  refine R_aload_n e_X12_parts_1.2.2.2.2.2.2.1 0 rfl ?_
  refine R_iload_n e_X12_parts_1.2.2.2.2.2.2.2.1 2 rfl ?_
  refine R_iconst e_X12_parts_1.2.2.2.2.2.2.2.2.1 ?_
  refine R_callV (mc := 0) (ms := 0) (mc' := 0) (ms' := 0) (M' := M_X12_of) (d' := 1) (as := [vI l2, vI 0]) (st := [vI (sRow (σ 1) (l1) (l3)), vI (sCol (σ 1) (l1) (l3)), vI (σ 1 ((34 + (9 * l1)) + 1)), vI (σ 1 ((34 + (9 * l1)) + 0))]) 12 2 e_X12_parts_1.2.2.2.2.2.2.2.2.2 (kCVof m_X12_of l_X12_268) rfl (by decide) km_0 (by decide) (by decide) rfl rfl (by show (4 : Nat) ≤ 8; decide) ?_
  obtain ⟨q21, h⟩ := h
  refine S_X12_of ⟨q21, ?_⟩
  refine R_eqs (st2 := [vI (σ 1 ((34 + (9 * l2)) + 0)), vI (sRow (σ 1) (l1) (l3)), vI (sCol (σ 1) (l1) (l3)), vI (σ 1 ((34 + (9 * l1)) + 1)), vI (σ 1 ((34 + (9 * l1)) + 0))]) (σ2 := σ) rfl rfl ?_
  refine R_aload_n e_X12_parts_2.1 0 rfl ?_
  refine R_iload_n e_X12_parts_2.2.1 2 rfl ?_
  refine R_iconst e_X12_parts_2.2.2.1 ?_
  refine R_callV (mc := 0) (ms := 0) (mc' := 0) (ms' := 0) (M' := M_X12_of) (d' := 1) (as := [vI l2, vI 1]) (st := [vI (σ 1 ((34 + (9 * l2)) + 0)), vI (sRow (σ 1) (l1) (l3)), vI (sCol (σ 1) (l1) (l3)), vI (σ 1 ((34 + (9 * l1)) + 1)), vI (σ 1 ((34 + (9 * l1)) + 0))]) 12 2 e_X12_parts_2.2.2.2.1 (kCVof m_X12_of l_X12_268) rfl (by decide) km_0 (by decide) (by decide) rfl rfl (by show (5 : Nat) ≤ 8; decide) ?_
  obtain ⟨q26, h⟩ := h
  refine S_X12_of ⟨q26, ?_⟩
  refine R_eqs (st2 := [vI (σ 1 ((34 + (9 * l2)) + 1)), vI (σ 1 ((34 + (9 * l2)) + 0)), vI (sRow (σ 1) (l1) (l3)), vI (sCol (σ 1) (l1) (l3)), vI (σ 1 ((34 + (9 * l1)) + 1)), vI (σ 1 ((34 + (9 * l1)) + 0))]) (σ2 := σ) rfl rfl ?_
  refine R_callS (mc := 0) (ms := 0) (mc' := 0) (ms' := 0) (M' := M_X12_side) (d' := 0) (as := [vI (σ 1 ((34 + (9 * l1)) + 0)), vI (σ 1 ((34 + (9 * l1)) + 1)), vI (sCol (σ 1) (l1) (l3)), vI (sRow (σ 1) (l1) (l3)), vI (σ 1 ((34 + (9 * l2)) + 0)), vI (σ 1 ((34 + (9 * l2)) + 1))]) (st := []) 6 e_X12_parts_2.2.2.2.2.1 (kCSof m_X12_side l_X12_315) (by decide) (by decide) rfl rfl (by show (0 : Nat) ≤ 8; decide) ?_
  refine Run.mono h (fun r27 s28 h => ?_)
  refine R_eqs (st2 := [vI r27]) rfl rfl ?_
  refine R_istore (ls2 := [(4, vI r27), (0, vA G 0), (1, vI l1), (2, vI l2), (3, vI l3)]) e_X12_parts_2.2.2.2.2.2.1 (by decide) rfl ?_
  refine R_iload e_X12_parts_2.2.2.2.2.2.2.1 0 rfl ?_
  refine R_aload_n e_X12_parts_2.2.2.2.2.2.2.2.1 1 rfl ?_
  refine R_iload_n e_X12_parts_2.2.2.2.2.2.2.2.2.1 2 rfl ?_
  refine R_iconst e_X12_parts_2.2.2.2.2.2.2.2.2.2 ?_
  refine R_callV (mc := 0) (ms := 0) (mc' := 0) (ms' := 0) (M' := M_X12_of) (d' := 1) (as := [vI l1, vI 0]) (st := [vI r27]) 12 2 e_X12_parts_3.1 (kCVof m_X12_of l_X12_268) rfl (by decide) km_0 (by decide) (by decide) rfl rfl (by show (1 : Nat) ≤ 8; decide) ?_
  obtain ⟨q33, h⟩ := h
  refine S_X12_of ⟨q33, ?_⟩
  refine R_eqs (st2 := [vI (s28 1 ((34 + (9 * l1)) + 0)), vI r27]) (σ2 := s28) rfl rfl ?_
  refine R_aload_n e_X12_parts_3.2.1 1 rfl ?_
  refine R_iload_n e_X12_parts_3.2.2.1 2 rfl ?_
  refine R_iconst e_X12_parts_3.2.2.2.1 ?_
  refine R_callV (mc := 0) (ms := 0) (mc' := 0) (ms' := 0) (M' := M_X12_of) (d' := 1) (as := [vI l1, vI 1]) (st := [vI (s28 1 ((34 + (9 * l1)) + 0)), vI r27]) 12 2 e_X12_parts_3.2.2.2.2.1 (kCVof m_X12_of l_X12_268) rfl (by decide) km_0 (by decide) (by decide) rfl rfl (by show (2 : Nat) ≤ 8; decide) ?_
  obtain ⟨q38, h⟩ := h
  refine S_X12_of ⟨q38, ?_⟩
  refine R_eqs (st2 := [vI (s28 1 ((34 + (9 * l1)) + 1)), vI (s28 1 ((34 + (9 * l1)) + 0)), vI r27]) (σ2 := s28) rfl rfl ?_
  refine R_aload_n e_X12_parts_3.2.2.2.2.2.1 1 rfl ?_
  refine R_iload_n e_X12_parts_3.2.2.2.2.2.2.1 2 rfl ?_
  refine R_iload_n e_X12_parts_3.2.2.2.2.2.2.2.1 4 rfl ?_
  obtain ⟨q41, h⟩ := h
  refine R_callV (mc := 0) (ms := 0) (mc' := 0) (ms' := 0) (M' := M_X12_columnOf) (d' := 3) (as := [vI l1, vI l3]) (st := [vI (s28 1 ((34 + (9 * l1)) + 1)), vI (s28 1 ((34 + (9 * l1)) + 0)), vI r27]) 12 2 e_X12_parts_3.2.2.2.2.2.2.2.2.1 (kCVof m_X12_columnOf l_X12_286) rfl (by decide) km_0 (by decide) (by decide) rfl rfl (by show (3 : Nat) ≤ 8; decide) ?_
  refine Run.mono (P_X12_columnOf q41) (fun r s e => ?_)
  obtain ⟨e1, e2⟩ := e
  refine R_eqs (st2 := [vI (sCol (s28 1) (l1) (l3)), vI (s28 1 ((34 + (9 * l1)) + 1)), vI (s28 1 ((34 + (9 * l1)) + 0)), vI r27]) (σ2 := s28) (by rw [e1]; rfl) e2 ?_
  refine R_aload_n e_X12_parts_3.2.2.2.2.2.2.2.2.2 1 rfl ?_
  refine R_iload_n e_X12_parts_4.1 2 rfl ?_
  refine R_iload_n e_X12_parts_4.2.1 4 rfl ?_
  obtain ⟨q44, h⟩ := h
  refine R_callV (mc := 0) (ms := 0) (mc' := 0) (ms' := 0) (M' := M_X12_rowOf) (d' := 3) (as := [vI l1, vI l3]) (st := [vI (sCol (s28 1) (l1) (l3)), vI (s28 1 ((34 + (9 * l1)) + 1)), vI (s28 1 ((34 + (9 * l1)) + 0)), vI r27]) 12 2 e_X12_parts_4.2.2.1 (kCVof m_X12_rowOf l_X12_292) rfl (by decide) km_0 (by decide) (by decide) rfl rfl (by show (4 : Nat) ≤ 8; decide) ?_
  refine Run.mono (P_X12_rowOf q44) (fun r s e => ?_)
  obtain ⟨e1, e2⟩ := e
  refine R_eqs (st2 := [vI (sRow (s28 1) (l1) (l3)), vI (sCol (s28 1) (l1) (l3)), vI (s28 1 ((34 + (9 * l1)) + 1)), vI (s28 1 ((34 + (9 * l1)) + 0)), vI r27]) (σ2 := s28) (by rw [e1]; rfl) e2 ?_
  refine R_aload_n e_X12_parts_4.2.2.2.1 1 rfl ?_
  refine R_iload_n e_X12_parts_4.2.2.2.2.1 3 rfl ?_
  refine R_iload_n e_X12_parts_4.2.2.2.2.2.1 4 rfl ?_
  obtain ⟨q47, h⟩ := h
  refine R_callV (mc := 0) (ms := 0) (mc' := 0) (ms' := 0) (M' := M_X12_columnOf) (d' := 3) (as := [vI l2, vI l3]) (st := [vI (sRow (s28 1) (l1) (l3)), vI (sCol (s28 1) (l1) (l3)), vI (s28 1 ((34 + (9 * l1)) + 1)), vI (s28 1 ((34 + (9 * l1)) + 0)), vI r27]) 12 2 e_X12_parts_4.2.2.2.2.2.2.1 (kCVof m_X12_columnOf l_X12_286) rfl (by decide) km_0 (by decide) (by decide) rfl rfl (by show (5 : Nat) ≤ 8; decide) ?_
  refine Run.mono (P_X12_columnOf q47) (fun r s e => ?_)
  obtain ⟨e1, e2⟩ := e
  refine R_eqs (st2 := [vI (sCol (s28 1) (l2) (l3)), vI (sRow (s28 1) (l1) (l3)), vI (sCol (s28 1) (l1) (l3)), vI (s28 1 ((34 + (9 * l1)) + 1)), vI (s28 1 ((34 + (9 * l1)) + 0)), vI r27]) (σ2 := s28) (by rw [e1]; rfl) e2 ?_
  refine R_aload_n e_X12_parts_4.2.2.2.2.2.2.2.1 1 rfl ?_
  refine R_iload_n e_X12_parts_4.2.2.2.2.2.2.2.2.1 3 rfl ?_
  refine R_iload_n e_X12_parts_4.2.2.2.2.2.2.2.2.2 4 rfl ?_
  obtain ⟨q50, h⟩ := h
  refine R_callV (mc := 0) (ms := 0) (mc' := 0) (ms' := 0) (M' := M_X12_rowOf) (d' := 3) (as := [vI l2, vI l3]) (st := [vI (sCol (s28 1) (l2) (l3)), vI (sRow (s28 1) (l1) (l3)), vI (sCol (s28 1) (l1) (l3)), vI (s28 1 ((34 + (9 * l1)) + 1)), vI (s28 1 ((34 + (9 * l1)) + 0)), vI r27]) 12 2 e_X12_parts_5.1 (kCVof m_X12_rowOf l_X12_292) rfl (by decide) km_0 (by decide) (by decide) rfl rfl (by show (6 : Nat) ≤ 8; decide) ?_
  refine Run.mono (P_X12_rowOf q50) (fun r s e => ?_)
  obtain ⟨e1, e2⟩ := e
  refine R_eqs (st2 := [vI (sRow (s28 1) (l2) (l3)), vI (sCol (s28 1) (l2) (l3)), vI (sRow (s28 1) (l1) (l3)), vI (sCol (s28 1) (l1) (l3)), vI (s28 1 ((34 + (9 * l1)) + 1)), vI (s28 1 ((34 + (9 * l1)) + 0)), vI r27]) (σ2 := s28) (by rw [e1]; rfl) e2 ?_
  refine R_callS (mc := 0) (ms := 0) (mc' := 0) (ms' := 0) (M' := M_X12_side) (d' := 0) (as := [vI (s28 1 ((34 + (9 * l1)) + 0)), vI (s28 1 ((34 + (9 * l1)) + 1)), vI (sCol (s28 1) (l1) (l3)), vI (sRow (s28 1) (l1) (l3)), vI (sCol (s28 1) (l2) (l3)), vI (sRow (s28 1) (l2) (l3))]) (st := [vI r27]) 6 e_X12_parts_5.2.1 (kCSof m_X12_side l_X12_315) (by decide) (by decide) rfl rfl (by show (1 : Nat) ≤ 8; decide) ?_
  refine Run.mono h (fun r51 s52 h => ?_)
  refine R_eqs (st2 := [vI r51, vI r27]) rfl rfl ?_
  refine R_imul e_X12_parts_5.2.2.1 ?_
  obtain ⟨q53, h⟩ := h
  refine R_if_ge 90 e_X12_parts_5.2.2.2.1 (by decide) q53  (fun q => ?_) (fun q => ?_)
  · replace h := h.1 q
    refine R_iconst e_X12_parts_5.2.2.2.2.2.2.1 ?_
    exact R_zreturn e_X12_parts_5.2.2.2.2.2.2.2 rfl (Or.inl rfl) h
  · replace h := h.2 q
    refine R_iconst e_X12_parts_5.2.2.2.2.1 ?_
    refine R_goto 91 e_X12_parts_5.2.2.2.2.2.1 (by decide) ?_
    exact R_zreturn e_X12_parts_5.2.2.2.2.2.2.2 rfl (Or.inr rfl) h
/-! KiteLandModel.doCross(III)Z -/
theorem e_X12_doCross_0 : decode cX12_doCross 0 = .ok (.aload_n 0, 1) ∧ decode cX12_doCross 1 = .ok (.iload_n 1, 1) ∧ decode cX12_doCross 2 = .ok (.iload_n 3, 1) ∧ decode cX12_doCross 3 = .ok (.invokevirtual 319, 3) ∧ decode cX12_doCross 6 = .ok (.ifCond .eq 36, 3) ∧ decode cX12_doCross 9 = .ok (.aload_n 0, 1) ∧ decode cX12_doCross 10 = .ok (.iload_n 2, 1) ∧ decode cX12_doCross 11 = .ok (.iload_n 3, 1) ∧ decode cX12_doCross 12 = .ok (.invokevirtual 319, 3) ∧ decode cX12_doCross 15 = .ok (.ifCond .eq 27, 3) := by decide +kernel
theorem e_X12_doCross_1 : decode cX12_doCross 18 = .ok (.aload_n 0, 1) ∧ decode cX12_doCross 19 = .ok (.iload_n 1, 1) ∧ decode cX12_doCross 20 = .ok (.iload_n 2, 1) ∧ decode cX12_doCross 21 = .ok (.iload_n 3, 1) ∧ decode cX12_doCross 22 = .ok (.invokevirtual 322, 3) ∧ decode cX12_doCross 25 = .ok (.ifCond .eq 17, 3) ∧ decode cX12_doCross 28 = .ok (.aload_n 0, 1) ∧ decode cX12_doCross 29 = .ok (.iload_n 2, 1) ∧ decode cX12_doCross 30 = .ok (.iload_n 1, 1) ∧ decode cX12_doCross 31 = .ok (.iload_n 3, 1) := by decide +kernel
theorem e_X12_doCross_2 : decode cX12_doCross 32 = .ok (.invokevirtual 322, 3) ∧ decode cX12_doCross 35 = .ok (.ifCond .eq 7, 3) ∧ decode cX12_doCross 38 = .ok (.iconst 1, 1) ∧ decode cX12_doCross 39 = .ok (.goto 4, 3) ∧ decode cX12_doCross 42 = .ok (.iconst 0, 1) ∧ decode cX12_doCross 43 = .ok (.ireturn, 1) := by decide +kernel
theorem S_X12_doCross {G : Kg} {σ : Kmem} {Q : Int → Kmem → Prop} {l1 l2 l3 : Int}  (h : (wf (σ 1) ∧ sKt (σ 1) (l1) ∧ sHr (l3)) ∧ ((¬ (sUp (σ 1) (l1) (l3)) → Q 0 σ) ∧ ((sUp (σ 1) (l1) (l3)) → (wf (σ 1) ∧ sKt (σ 1) (l2) ∧ sHr (l3)) ∧ ((¬ (sUp (σ 1) (l2) (l3)) → Q 0 σ) ∧ ((sUp (σ 1) (l2) (l3)) → Run G WM M_X12_parts 4 0 0 [vA G 0, vI l1, vI l2, vI l3] σ (fun r7 s8 => (rI r7) ∧ ((r7 = 0 → Q 0 s8) ∧ (r7 ≠ 0 → Run G WM M_X12_parts 4 0 0 [vA G 0, vI l2, vI l1, vI l3] s8 (fun r10 s11 => (rI r10) ∧ ((r10 = 0 → Q 0 s11) ∧ (r10 ≠ 0 → Q 1 s11))))))))))) : Run G WM M_X12_doCross 5 0 0 [vA G 0, vI l1, vI l2, vI l3] σ Q := by
  refine Run.of (by decide +kernel) (by show (4 : Nat) ≤ 4; decide) ?_
  show Ex G WM M_X12_doCross 5 0 0 0 [(0, vA G 0), (1, vI l1), (2, vI l2), (3, vI l3)] [] σ Q
  refine R_aload_n e_X12_doCross_0.1 0 rfl ?_
  refine R_iload_n e_X12_doCross_0.2.1 1 rfl ?_
  refine R_iload_n e_X12_doCross_0.2.2.1 3 rfl ?_
  obtain ⟨q3, h⟩ := h
  refine R_callV (mc := 0) (ms := 0) (mc' := 0) (ms' := 0) (M' := M_X12_isUp) (d' := 3) (as := [vI l1, vI l3]) (st := []) 12 2 e_X12_doCross_0.2.2.2.1 (kCVof m_X12_isUp l_X12_319) rfl (by decide) km_0 (by decide) (by decide) rfl rfl (by show (0 : Nat) ≤ 8; decide) ?_
  refine Run.mono (P_X12_isUp q3) (fun r s e => ?_)
  obtain ⟨e1, e2⟩ := e
  refine R_eqs (st2 := [vI (kb (sUp (σ 1) (l1) (l3)))]) (σ2 := σ) (by rw [e1]; rfl) e2 ?_
  refine R_if_eq 42 e_X12_doCross_0.2.2.2.2.1 (by decide) (kb_r _) (fun q => ?_) (fun q => ?_)
  · replace h := h.1 (kb_f q)
    refine R_iconst e_X12_doCross_2.2.2.2.2.1 ?_
    exact R_zreturn e_X12_doCross_2.2.2.2.2.2 rfl (Or.inl rfl) h
  · replace h := h.2 (kb_t q)
    refine R_aload_n e_X12_doCross_0.2.2.2.2.2.1 0 rfl ?_
    refine R_iload_n e_X12_doCross_0.2.2.2.2.2.2.1 2 rfl ?_
    refine R_iload_n e_X12_doCross_0.2.2.2.2.2.2.2.1 3 rfl ?_
    obtain ⟨q6, h⟩ := h
    refine R_callV (mc := 0) (ms := 0) (mc' := 0) (ms' := 0) (M' := M_X12_isUp) (d' := 3) (as := [vI l2, vI l3]) (st := []) 12 2 e_X12_doCross_0.2.2.2.2.2.2.2.2.1 (kCVof m_X12_isUp l_X12_319) rfl (by decide) km_0 (by decide) (by decide) rfl rfl (by show (0 : Nat) ≤ 8; decide) ?_
    refine Run.mono (P_X12_isUp q6) (fun r s e => ?_)
    obtain ⟨e1, e2⟩ := e
    refine R_eqs (st2 := [vI (kb (sUp (σ 1) (l2) (l3)))]) (σ2 := σ) (by rw [e1]; rfl) e2 ?_
    refine R_if_eq 42 e_X12_doCross_0.2.2.2.2.2.2.2.2.2 (by decide) (kb_r _) (fun q => ?_) (fun q => ?_)
    · replace h := h.1 (kb_f q)
      refine R_iconst e_X12_doCross_2.2.2.2.2.1 ?_
      exact R_zreturn e_X12_doCross_2.2.2.2.2.2 rfl (Or.inl rfl) h
    · replace h := h.2 (kb_t q)
      refine R_aload_n e_X12_doCross_1.1 0 rfl ?_
      refine R_iload_n e_X12_doCross_1.2.1 1 rfl ?_
      refine R_iload_n e_X12_doCross_1.2.2.1 2 rfl ?_
      refine R_iload_n e_X12_doCross_1.2.2.2.1 3 rfl ?_
      refine R_callV (mc := 0) (ms := 0) (mc' := 0) (ms' := 0) (M' := M_X12_parts) (d' := 4) (as := [vI l1, vI l2, vI l3]) (st := []) 12 3 e_X12_doCross_1.2.2.2.2.1 (kCVof m_X12_parts l_X12_322) rfl (by decide) km_0 (by decide) (by decide) rfl rfl (by show (0 : Nat) ≤ 8; decide) ?_
      refine Run.mono h (fun r7 s8 h => ?_)
      refine R_eqs (st2 := [vI r7]) rfl rfl ?_
      obtain ⟨q9, h⟩ := h
      refine R_if_eq 42 e_X12_doCross_1.2.2.2.2.2.1 (by decide) q9  (fun q => ?_) (fun q => ?_)
      · replace h := h.1 q
        refine R_iconst e_X12_doCross_2.2.2.2.2.1 ?_
        exact R_zreturn e_X12_doCross_2.2.2.2.2.2 rfl (Or.inl rfl) h
      · replace h := h.2 q
        refine R_aload_n e_X12_doCross_1.2.2.2.2.2.2.1 0 rfl ?_
        refine R_iload_n e_X12_doCross_1.2.2.2.2.2.2.2.1 2 rfl ?_
        refine R_iload_n e_X12_doCross_1.2.2.2.2.2.2.2.2.1 1 rfl ?_
        refine R_iload_n e_X12_doCross_1.2.2.2.2.2.2.2.2.2 3 rfl ?_
        refine R_callV (mc := 0) (ms := 0) (mc' := 0) (ms' := 0) (M' := M_X12_parts) (d' := 4) (as := [vI l2, vI l1, vI l3]) (st := []) 12 3 e_X12_doCross_2.1 (kCVof m_X12_parts l_X12_322) rfl (by decide) km_0 (by decide) (by decide) rfl rfl (by show (0 : Nat) ≤ 8; decide) ?_
        refine Run.mono h (fun r10 s11 h => ?_)
        refine R_eqs (st2 := [vI r10]) rfl rfl ?_
        obtain ⟨q12, h⟩ := h
        refine R_if_eq 42 e_X12_doCross_2.2.1 (by decide) q12  (fun q => ?_) (fun q => ?_)
        · replace h := h.1 q
          refine R_iconst e_X12_doCross_2.2.2.2.2.1 ?_
          exact R_zreturn e_X12_doCross_2.2.2.2.2.2 rfl (Or.inl rfl) h
        · replace h := h.2 q
          refine R_iconst e_X12_doCross_2.2.2.1 ?_
          refine R_goto 43 e_X12_doCross_2.2.2.2.1 (by decide) ?_
          exact R_zreturn e_X12_doCross_2.2.2.2.2.2 rfl (Or.inr rfl) h
/-! KiteLandModel.doomedNow()I -/
theorem e_X12_doomedNow_0 : decode cX12_doomedNow 0 = .ok (.iconst 0, 1) ∧ decode cX12_doomedNow 1 = .ok (.istore_n 1, 1) ∧ decode cX12_doomedNow 2 = .ok (.iconst 0, 1) ∧ decode cX12_doomedNow 3 = .ok (.istore_n 2, 1) ∧ decode cX12_doomedNow 4 = .ok (.iload_n 2, 1) ∧ decode cX12_doomedNow 5 = .ok (.aload_n 0, 1) ∧ decode cX12_doomedNow 6 = .ok (.getfield 7, 3) ∧ decode cX12_doomedNow 9 = .ok (.iconst 2, 1) ∧ decode cX12_doomedNow 10 = .ok (.iaload, 1) ∧ decode cX12_doomedNow 11 = .ok (.if_icmp .ge 70, 3) := by decide +kernel
theorem e_X12_doomedNow_1 : decode cX12_doomedNow 14 = .ok (.iconst 0, 1) ∧ decode cX12_doomedNow 15 = .ok (.istore_n 3, 1) ∧ decode cX12_doomedNow 16 = .ok (.iload_n 3, 1) ∧ decode cX12_doomedNow 17 = .ok (.aload_n 0, 1) ∧ decode cX12_doomedNow 18 = .ok (.getfield 7, 3) ∧ decode cX12_doomedNow 21 = .ok (.iconst 2, 1) ∧ decode cX12_doomedNow 22 = .ok (.iaload, 1) ∧ decode cX12_doomedNow 23 = .ok (.if_icmp .ge 52, 3) ∧ decode cX12_doomedNow 26 = .ok (.iload_n 1, 1) ∧ decode cX12_doomedNow 27 = .ok (.iload_n 2, 1) := by decide +kernel
theorem e_X12_doomedNow_2 : decode cX12_doomedNow 28 = .ok (.iload_n 3, 1) ∧ decode cX12_doomedNow 29 = .ok (.if_icmp .eq 37, 3) ∧ decode cX12_doomedNow 32 = .ok (.aload_n 0, 1) ∧ decode cX12_doomedNow 33 = .ok (.iload_n 2, 1) ∧ decode cX12_doomedNow 34 = .ok (.iload_n 3, 1) ∧ decode cX12_doomedNow 35 = .ok (.aload_n 0, 1) ∧ decode cX12_doomedNow 36 = .ok (.invokevirtual 325, 3) ∧ decode cX12_doomedNow 39 = .ok (.invokevirtual 328, 3) ∧ decode cX12_doomedNow 42 = .ok (.ifCond .eq 24, 3) ∧ decode cX12_doomedNow 45 = .ok (.aload_n 0, 1) := by decide +kernel
theorem e_X12_doomedNow_3 : decode cX12_doomedNow 46 = .ok (.iload_n 2, 1) ∧ decode cX12_doomedNow 47 = .ok (.iconst 3, 1) ∧ decode cX12_doomedNow 48 = .ok (.invokevirtual 268, 3) ∧ decode cX12_doomedNow 51 = .ok (.aload_n 0, 1) ∧ decode cX12_doomedNow 52 = .ok (.iload_n 3, 1) ∧ decode cX12_doomedNow 53 = .ok (.iconst 3, 1) ∧ decode cX12_doomedNow 54 = .ok (.invokevirtual 268, 3) ∧ decode cX12_doomedNow 57 = .ok (.if_icmp .gt 9, 3) ∧ decode cX12_doomedNow 60 = .ok (.iconst 1, 1) ∧ decode cX12_doomedNow 61 = .ok (.iload_n 2, 1) := by decide +kernel
theorem e_X12_doomedNow_4 : decode cX12_doomedNow 62 = .ok (.ishl, 1) ∧ decode cX12_doomedNow 63 = .ok (.goto 4, 3) ∧ decode cX12_doomedNow 66 = .ok (.iconst 0, 1) ∧ decode cX12_doomedNow 67 = .ok (.ior, 1) ∧ decode cX12_doomedNow 68 = .ok (.istore_n 1, 1) ∧ decode cX12_doomedNow 69 = .ok (.iinc 3 1, 3) ∧ decode cX12_doomedNow 72 = .ok (.goto (-56), 3) ∧ decode cX12_doomedNow 75 = .ok (.iinc 2 1, 3) ∧ decode cX12_doomedNow 78 = .ok (.goto (-74), 3) ∧ decode cX12_doomedNow 81 = .ok (.iload_n 1, 1) := by decide +kernel
theorem e_X12_doomedNow_5 : decode cX12_doomedNow 82 = .ok (.ireturn, 1) := by decide +kernel
abbrev E_X12_doomedNow_4 (G : Kg) (l1 l2 : Int) (σ : Kmem) (Q : Int → Kmem → Prop) : Prop := Ex G WM M_X12_doomedNow 6 0 0 4 [(0, vA G 0), (1, vI l1), (2, vI l2)] [] σ Q
abbrev E_X12_doomedNow_16 (G : Kg) (l1 l2 l3 : Int) (σ : Kmem) (Q : Int → Kmem → Prop) : Prop := Ex G WM M_X12_doomedNow 6 0 0 16 [(0, vA G 0), (1, vI l1), (2, vI l2), (3, vI l3)] [] σ Q
theorem S_X12_doomedNow {G : Kg} {σ : Kmem} {Q : Int → Kmem → Prop}  (h : E_X12_doomedNow_4 G 0 0 σ Q) : Run G WM M_X12_doomedNow 6 0 0 [vA G 0] σ Q := by
  refine Run.of (by decide +kernel) (by show (1 : Nat) ≤ 4; decide) ?_
  show Ex G WM M_X12_doomedNow 6 0 0 0 [(0, vA G 0)] [] σ Q
  refine R_iconst e_X12_doomedNow_0.1 ?_
  refine R_istore_n (ls2 := [(1, vI 0), (0, vA G 0)]) e_X12_doomedNow_0.2.1 (by decide) rfl ?_
  refine R_iconst e_X12_doomedNow_0.2.2.1 ?_
  refine R_istore_n (ls2 := [(2, vI 0), (1, vI 0), (0, vA G 0)]) e_X12_doomedNow_0.2.2.2.1 (by decide) rfl ?_
  refine R_ls (ls2 := [(0, vA G 0), (1, vI 0), (2, vI 0)]) [2, 1, 0] rfl ?_
  exact h
theorem S_X12_doomedNow_4 {G : Kg} {σ : Kmem} {Q : Int → Kmem → Prop} {l1 l2 : Int}  (h : (rI l2) ∧ (rI (σ 1 2)) ∧ ((σ 1 2 ≤ l2 → Q l1 σ) ∧ (l2 < σ 1 2 → E_X12_doomedNow_16 G l1 l2 0 σ Q))) : E_X12_doomedNow_4 G l1 l2 σ Q := by
  refine R_iload_n e_X12_doomedNow_0.2.2.2.2.1 2 rfl ?_
  refine R_aload_n e_X12_doomedNow_0.2.2.2.2.2.1 0 rfl ?_
  refine R_getA 12 0 1 e_X12_doomedNow_0.2.2.2.2.2.2.1 f_X12_7 km_0 (fun _ _ => rfl) rm_0_0 (by decide) ?_
  refine R_iconst e_X12_doomedNow_0.2.2.2.2.2.2.2.1 ?_
  refine R_iald 3598 e_X12_doomedNow_0.2.2.2.2.2.2.2.2.1 kma_1 (by decide) ?_
  obtain ⟨q1, h⟩ := h
  obtain ⟨q2, h⟩ := h
  refine R_icmp_ge 81 e_X12_doomedNow_0.2.2.2.2.2.2.2.2.2 (by decide) q1 q2 (fun q => ?_) (fun q => ?_)
  · replace h := h.1 q
    refine R_iload_n e_X12_doomedNow_4.2.2.2.2.2.2.2.2.2 1 rfl ?_
    exact R_ireturn e_X12_doomedNow_5 rfl h
  · replace h := h.2 q
    refine R_iconst e_X12_doomedNow_1.1 ?_
    refine R_istore_n (ls2 := [(3, vI 0), (0, vA G 0), (1, vI l1), (2, vI l2)]) e_X12_doomedNow_1.2.1 (by decide) rfl ?_
    refine R_ls (ls2 := [(0, vA G 0), (1, vI l1), (2, vI l2), (3, vI 0)]) [1, 2, 3, 0] rfl ?_
    exact h
theorem S_X12_doomedNow_16 {G : Kg} {σ : Kmem} {Q : Int → Kmem → Prop} {l1 l2 l3 : Int}  (h : (rI l3) ∧ (rI (σ 1 2)) ∧ ((σ 1 2 ≤ l3 → E_X12_doomedNow_4 G l1 (l2 + 1) σ Q) ∧ (l3 < σ 1 2 → (rI l2) ∧ ((l2 = l3 → E_X12_doomedNow_16 G (kor l1 0) l2 (l3 + 1) σ Q) ∧ (l2 ≠ l3 → (0 ≤ σ 1 7 ∧ σ 1 7 ≤ 2147483647) ∧ Run G WM M_X12_doCross 5 0 0 [vA G 0, vI l2, vI l3, vI ((σ 1 7) % 12)] σ (fun r9 s10 => (rI r9) ∧ ((r9 = 0 → E_X12_doomedNow_16 G (kor l1 0) l2 (l3 + 1) s10 Q) ∧ (r9 ≠ 0 → (0 ≤ (34 + (9 * l2)) + 3 ∧ (34 + (9 * l2)) + 3 < 3598) ∧ (0 ≤ (34 + (9 * l3)) + 3 ∧ (34 + (9 * l3)) + 3 < 3598) ∧ (rI (s10 1 ((34 + (9 * l2)) + 3))) ∧ (rI (s10 1 ((34 + (9 * l3)) + 3))) ∧ ((s10 1 ((34 + (9 * l3)) + 3) < s10 1 ((34 + (9 * l2)) + 3) → E_X12_doomedNow_16 G (kor l1 0) l2 (l3 + 1) s10 Q) ∧ (s10 1 ((34 + (9 * l2)) + 3) ≤ s10 1 ((34 + (9 * l3)) + 3) → E_X12_doomedNow_16 G (kor l1 (kshl 1 l2)) l2 (l3 + 1) s10 Q)))))))))) : E_X12_doomedNow_16 G l1 l2 l3 σ Q := by
  refine R_iload_n e_X12_doomedNow_1.2.2.1 3 rfl ?_
  refine R_aload_n e_X12_doomedNow_1.2.2.2.1 0 rfl ?_
  refine R_getA 12 0 1 e_X12_doomedNow_1.2.2.2.2.1 f_X12_7 km_0 (fun _ _ => rfl) rm_0_0 (by decide) ?_
  refine R_iconst e_X12_doomedNow_1.2.2.2.2.2.1 ?_
  refine R_iald 3598 e_X12_doomedNow_1.2.2.2.2.2.2.1 kma_1 (by decide) ?_
  obtain ⟨q3, h⟩ := h
  obtain ⟨q4, h⟩ := h
  refine R_icmp_ge 75 e_X12_doomedNow_1.2.2.2.2.2.2.2.1 (by decide) q3 q4 (fun q => ?_) (fun q => ?_)
  · replace h := h.1 q
    refine R_iinc (ls2 := [(2, vI (l2 + 1)), (0, vA G 0), (1, vI l1), (3, vI l3)]) e_X12_doomedNow_4.2.2.2.2.2.2.2.1 2 rfl (by decide) rfl ?_
    refine R_goto 4 e_X12_doomedNow_4.2.2.2.2.2.2.2.2.1 (by decide) ?_
    refine R_ls (ls2 := [(0, vA G 0), (1, vI l1), (2, vI (l2 + 1))]) [1, 2, 0] rfl ?_
    exact h
  · replace h := h.2 q
    refine R_iload_n e_X12_doomedNow_1.2.2.2.2.2.2.2.2.1 1 rfl ?_
    refine R_iload_n e_X12_doomedNow_1.2.2.2.2.2.2.2.2.2 2 rfl ?_
    refine R_iload_n e_X12_doomedNow_2.1 3 rfl ?_
    obtain ⟨q5, h⟩ := h
    refine R_icmp_eq 66 e_X12_doomedNow_2.2.1 (by decide) q5 q3 (fun q => ?_) (fun q => ?_)
    · replace h := h.1 q
      refine R_iconst e_X12_doomedNow_4.2.2.1 ?_
      refine R_ior e_X12_doomedNow_4.2.2.2.1 ?_
      refine R_istore_n (ls2 := [(1, vI (kor l1 0)), (0, vA G 0), (2, vI l2), (3, vI l3)]) e_X12_doomedNow_4.2.2.2.2.1 (by decide) rfl ?_
      refine R_iinc (ls2 := [(3, vI (l3 + 1)), (1, vI (kor l1 0)), (0, vA G 0), (2, vI l2)]) e_X12_doomedNow_4.2.2.2.2.2.1 3 rfl (by decide) rfl ?_
      refine R_goto 16 e_X12_doomedNow_4.2.2.2.2.2.2.1 (by decide) ?_
      refine R_ls (ls2 := [(0, vA G 0), (1, vI (kor l1 0)), (2, vI l2), (3, vI (l3 + 1))]) [2, 1, 3, 0] rfl ?_
      exact h
    · replace h := h.2 q
      refine R_aload_n e_X12_doomedNow_2.2.2.1 0 rfl ?_
      refine R_iload_n e_X12_doomedNow_2.2.2.2.1 2 rfl ?_
      refine R_iload_n e_X12_doomedNow_2.2.2.2.2.1 3 rfl ?_
      refine R_aload_n e_X12_doomedNow_2.2.2.2.2.2.1 0 rfl ?_
      refine R_callV (mc := 0) (ms := 0) (mc' := 0) (ms' := 0) (M' := M_X12_now) (d' := 0) (as := []) (st := [vI l3, vI l2, vA G 0, vI l1]) 12 0 e_X12_doomedNow_2.2.2.2.2.2.2.1 (kCVof m_X12_now l_X12_325) rfl (by decide) km_0 (by decide) (by decide) rfl rfl (by show (4 : Nat) ≤ 8; decide) ?_
      obtain ⟨q8, h⟩ := h
      refine S_X12_now ⟨q8, ?_⟩
      refine R_eqs (st2 := [vI ((σ 1 7) % 12), vI l3, vI l2, vA G 0, vI l1]) (σ2 := σ) rfl rfl ?_
      refine R_callV (mc := 0) (ms := 0) (mc' := 0) (ms' := 0) (M' := M_X12_doCross) (d' := 5) (as := [vI l2, vI l3, vI ((σ 1 7) % 12)]) (st := [vI l1]) 12 3 e_X12_doomedNow_2.2.2.2.2.2.2.2.1 (kCVof m_X12_doCross l_X12_328) rfl (by decide) km_0 (by decide) (by decide) rfl rfl (by show (1 : Nat) ≤ 8; decide) ?_
      refine Run.mono h (fun r9 s10 h => ?_)
      refine R_eqs (st2 := [vI r9, vI l1]) rfl rfl ?_
      obtain ⟨q11, h⟩ := h
      refine R_if_eq 66 e_X12_doomedNow_2.2.2.2.2.2.2.2.2.1 (by decide) q11  (fun q => ?_) (fun q => ?_)
      · replace h := h.1 q
        refine R_iconst e_X12_doomedNow_4.2.2.1 ?_
        refine R_ior e_X12_doomedNow_4.2.2.2.1 ?_
        refine R_istore_n (ls2 := [(1, vI (kor l1 0)), (0, vA G 0), (2, vI l2), (3, vI l3)]) e_X12_doomedNow_4.2.2.2.2.1 (by decide) rfl ?_
        refine R_iinc (ls2 := [(3, vI (l3 + 1)), (1, vI (kor l1 0)), (0, vA G 0), (2, vI l2)]) e_X12_doomedNow_4.2.2.2.2.2.1 3 rfl (by decide) rfl ?_
        refine R_goto 16 e_X12_doomedNow_4.2.2.2.2.2.2.1 (by decide) ?_
        refine R_ls (ls2 := [(0, vA G 0), (1, vI (kor l1 0)), (2, vI l2), (3, vI (l3 + 1))]) [2, 1, 3, 0] rfl ?_
        exact h
      · replace h := h.2 q
        refine R_aload_n e_X12_doomedNow_2.2.2.2.2.2.2.2.2.2 0 rfl ?_
        refine R_iload_n e_X12_doomedNow_3.1 2 rfl ?_
        refine R_iconst e_X12_doomedNow_3.2.1 ?_
        refine R_callV (mc := 0) (ms := 0) (mc' := 0) (ms' := 0) (M' := M_X12_of) (d' := 1) (as := [vI l2, vI 3]) (st := [vI l1]) 12 2 e_X12_doomedNow_3.2.2.1 (kCVof m_X12_of l_X12_268) rfl (by decide) km_0 (by decide) (by decide) rfl rfl (by show (1 : Nat) ≤ 8; decide) ?_
        obtain ⟨q16, h⟩ := h
        refine S_X12_of ⟨q16, ?_⟩
        refine R_eqs (st2 := [vI (s10 1 ((34 + (9 * l2)) + 3)), vI l1]) (σ2 := s10) rfl rfl ?_
        refine R_aload_n e_X12_doomedNow_3.2.2.2.1 0 rfl ?_
        refine R_iload_n e_X12_doomedNow_3.2.2.2.2.1 3 rfl ?_
        refine R_iconst e_X12_doomedNow_3.2.2.2.2.2.1 ?_
        refine R_callV (mc := 0) (ms := 0) (mc' := 0) (ms' := 0) (M' := M_X12_of) (d' := 1) (as := [vI l3, vI 3]) (st := [vI (s10 1 ((34 + (9 * l2)) + 3)), vI l1]) 12 2 e_X12_doomedNow_3.2.2.2.2.2.2.1 (kCVof m_X12_of l_X12_268) rfl (by decide) km_0 (by decide) (by decide) rfl rfl (by show (2 : Nat) ≤ 8; decide) ?_
        obtain ⟨q21, h⟩ := h
        refine S_X12_of ⟨q21, ?_⟩
        refine R_eqs (st2 := [vI (s10 1 ((34 + (9 * l3)) + 3)), vI (s10 1 ((34 + (9 * l2)) + 3)), vI l1]) (σ2 := s10) rfl rfl ?_
        obtain ⟨q22, h⟩ := h
        obtain ⟨q23, h⟩ := h
        refine R_icmp_gt 66 e_X12_doomedNow_3.2.2.2.2.2.2.2.1 (by decide) q22 q23 (fun q => ?_) (fun q => ?_)
        · replace h := h.1 q
          refine R_iconst e_X12_doomedNow_4.2.2.1 ?_
          refine R_ior e_X12_doomedNow_4.2.2.2.1 ?_
          refine R_istore_n (ls2 := [(1, vI (kor l1 0)), (0, vA G 0), (2, vI l2), (3, vI l3)]) e_X12_doomedNow_4.2.2.2.2.1 (by decide) rfl ?_
          refine R_iinc (ls2 := [(3, vI (l3 + 1)), (1, vI (kor l1 0)), (0, vA G 0), (2, vI l2)]) e_X12_doomedNow_4.2.2.2.2.2.1 3 rfl (by decide) rfl ?_
          refine R_goto 16 e_X12_doomedNow_4.2.2.2.2.2.2.1 (by decide) ?_
          refine R_ls (ls2 := [(0, vA G 0), (1, vI (kor l1 0)), (2, vI l2), (3, vI (l3 + 1))]) [2, 1, 3, 0] rfl ?_
          exact h
        · replace h := h.2 q
          refine R_iconst e_X12_doomedNow_3.2.2.2.2.2.2.2.2.1 ?_
          refine R_iload_n e_X12_doomedNow_3.2.2.2.2.2.2.2.2.2 2 rfl ?_
          refine R_ishl e_X12_doomedNow_4.1 ?_
          refine R_goto 67 e_X12_doomedNow_4.2.1 (by decide) ?_
          refine R_ior e_X12_doomedNow_4.2.2.2.1 ?_
          refine R_istore_n (ls2 := [(1, vI (kor l1 (kshl 1 l2))), (0, vA G 0), (2, vI l2), (3, vI l3)]) e_X12_doomedNow_4.2.2.2.2.1 (by decide) rfl ?_
          refine R_iinc (ls2 := [(3, vI (l3 + 1)), (1, vI (kor l1 (kshl 1 l2))), (0, vA G 0), (2, vI l2)]) e_X12_doomedNow_4.2.2.2.2.2.1 3 rfl (by decide) rfl ?_
          refine R_goto 16 e_X12_doomedNow_4.2.2.2.2.2.2.1 (by decide) ?_
          refine R_ls (ls2 := [(0, vA G 0), (1, vI (kor l1 (kshl 1 l2))), (2, vI l2), (3, vI (l3 + 1))]) [2, 1, 3, 0] rfl ?_
          exact h
/-! KiteLandModel.setOf(I)I -/
theorem e_X12_setOf_0 : decode cX12_setOf 0 = .ok (.iconst 0, 1) ∧ decode cX12_setOf 1 = .ok (.istore_n 2, 1) ∧ decode cX12_setOf 2 = .ok (.iconst 0, 1) ∧ decode cX12_setOf 3 = .ok (.istore_n 3, 1) ∧ decode cX12_setOf 4 = .ok (.iload_n 3, 1) ∧ decode cX12_setOf 5 = .ok (.aload_n 0, 1) ∧ decode cX12_setOf 6 = .ok (.getfield 7, 3) ∧ decode cX12_setOf 9 = .ok (.iconst 2, 1) ∧ decode cX12_setOf 10 = .ok (.iaload, 1) ∧ decode cX12_setOf 11 = .ok (.if_icmp .ge 51, 3) := by decide +kernel
theorem e_X12_setOf_1 : decode cX12_setOf 14 = .ok (.iload_n 1, 1) ∧ decode cX12_setOf 15 = .ok (.iconst 2, 1) ∧ decode cX12_setOf 16 = .ok (.if_icmp .ge 46, 3) ∧ decode cX12_setOf 19 = .ok (.iload_n 2, 1) ∧ decode cX12_setOf 20 = .ok (.iload_n 1, 1) ∧ decode cX12_setOf 21 = .ok (.ifCond .ne 18, 3) ∧ decode cX12_setOf 24 = .ok (.aload_n 0, 1) ∧ decode cX12_setOf 25 = .ok (.iload_n 3, 1) ∧ decode cX12_setOf 26 = .ok (.aload_n 0, 1) ∧ decode cX12_setOf 27 = .ok (.invokevirtual 325, 3) := by decide +kernel
theorem e_X12_setOf_2 : decode cX12_setOf 30 = .ok (.invokevirtual 319, 3) ∧ decode cX12_setOf 33 = .ok (.ifCond .eq 20, 3) ∧ decode cX12_setOf 36 = .ok (.goto 11, 3) ∧ decode cX12_setOf 39 = .ok (.aload_n 0, 1) ∧ decode cX12_setOf 40 = .ok (.iload_n 3, 1) ∧ decode cX12_setOf 41 = .ok (.invokevirtual 271, 3) ∧ decode cX12_setOf 44 = .ok (.ifCond .eq 9, 3) ∧ decode cX12_setOf 47 = .ok (.iconst 1, 1) ∧ decode cX12_setOf 48 = .ok (.iload_n 3, 1) ∧ decode cX12_setOf 49 = .ok (.ishl, 1) := by decide +kernel
theorem e_X12_setOf_3 : decode cX12_setOf 50 = .ok (.goto 4, 3) ∧ decode cX12_setOf 53 = .ok (.iconst 0, 1) ∧ decode cX12_setOf 54 = .ok (.ior, 1) ∧ decode cX12_setOf 55 = .ok (.istore_n 2, 1) ∧ decode cX12_setOf 56 = .ok (.iinc 3 1, 3) ∧ decode cX12_setOf 59 = .ok (.goto (-55), 3) ∧ decode cX12_setOf 62 = .ok (.iconst 0, 1) ∧ decode cX12_setOf 63 = .ok (.istore_n 3, 1) ∧ decode cX12_setOf 64 = .ok (.iload_n 3, 1) ∧ decode cX12_setOf 65 = .ok (.aload_n 0, 1) := by decide +kernel
theorem e_X12_setOf_4 : decode cX12_setOf 66 = .ok (.getfield 7, 3) ∧ decode cX12_setOf 69 = .ok (.iconst 3, 1) ∧ decode cX12_setOf 70 = .ok (.iaload, 1) ∧ decode cX12_setOf 71 = .ok (.if_icmp .ge 32, 3) ∧ decode cX12_setOf 74 = .ok (.iload_n 1, 1) ∧ decode cX12_setOf 75 = .ok (.iconst 2, 1) ∧ decode cX12_setOf 76 = .ok (.if_icmp .ne 27, 3) ∧ decode cX12_setOf 79 = .ok (.iload_n 2, 1) ∧ decode cX12_setOf 80 = .ok (.aload_n 0, 1) ∧ decode cX12_setOf 81 = .ok (.iload_n 3, 1) := by decide +kernel
theorem e_X12_setOf_5 : decode cX12_setOf 82 = .ok (.invokevirtual 331, 3) ∧ decode cX12_setOf 85 = .ok (.ifCond .eq 9, 3) ∧ decode cX12_setOf 88 = .ok (.iconst 1, 1) ∧ decode cX12_setOf 89 = .ok (.iload_n 3, 1) ∧ decode cX12_setOf 90 = .ok (.ishl, 1) ∧ decode cX12_setOf 91 = .ok (.goto 4, 3) ∧ decode cX12_setOf 94 = .ok (.iconst 0, 1) ∧ decode cX12_setOf 95 = .ok (.ior, 1) ∧ decode cX12_setOf 96 = .ok (.istore_n 2, 1) ∧ decode cX12_setOf 97 = .ok (.iinc 3 1, 3) := by decide +kernel
theorem e_X12_setOf_6 : decode cX12_setOf 100 = .ok (.goto (-36), 3) ∧ decode cX12_setOf 103 = .ok (.iload_n 2, 1) ∧ decode cX12_setOf 104 = .ok (.ireturn, 1) := by decide +kernel
abbrev E_X12_setOf_4 (G : Kg) (l1 l2 l3 : Int) (σ : Kmem) (Q : Int → Kmem → Prop) : Prop := Ex G WM M_X12_setOf 4 0 0 4 [(0, vA G 0), (1, vI l1), (2, vI l2), (3, vI l3)] [] σ Q
abbrev E_X12_setOf_64 (G : Kg) (l1 l2 l3 : Int) (σ : Kmem) (Q : Int → Kmem → Prop) : Prop := Ex G WM M_X12_setOf 4 0 0 64 [(0, vA G 0), (1, vI l1), (2, vI l2), (3, vI l3)] [] σ Q
theorem S_X12_setOf {G : Kg} {σ : Kmem} {Q : Int → Kmem → Prop} {l1 : Int}  (h : E_X12_setOf_4 G l1 0 0 σ Q) : Run G WM M_X12_setOf 4 0 0 [vA G 0, vI l1] σ Q := by
  refine Run.of (by decide +kernel) (by show (2 : Nat) ≤ 4; decide) ?_
  show Ex G WM M_X12_setOf 4 0 0 0 [(0, vA G 0), (1, vI l1)] [] σ Q
  refine R_iconst e_X12_setOf_0.1 ?_
  refine R_istore_n (ls2 := [(2, vI 0), (0, vA G 0), (1, vI l1)]) e_X12_setOf_0.2.1 (by decide) rfl ?_
  refine R_iconst e_X12_setOf_0.2.2.1 ?_
  refine R_istore_n (ls2 := [(3, vI 0), (2, vI 0), (0, vA G 0), (1, vI l1)]) e_X12_setOf_0.2.2.2.1 (by decide) rfl ?_
  refine R_ls (ls2 := [(0, vA G 0), (1, vI l1), (2, vI 0), (3, vI 0)]) [2, 3, 1, 0] rfl ?_
  exact h
theorem S_X12_setOf_4 {G : Kg} {σ : Kmem} {Q : Int → Kmem → Prop} {l1 l2 l3 : Int}  (h : (rI l3) ∧ (rI (σ 1 2)) ∧ ((σ 1 2 ≤ l3 → E_X12_setOf_64 G l1 l2 0 σ Q) ∧ (l3 < σ 1 2 → (rI l1) ∧ ((2 ≤ l1 → E_X12_setOf_64 G l1 l2 0 σ Q) ∧ (l1 < 2 → ((l1 ≠ 0 → (wf (σ 1) ∧ sKt (σ 1) (l3)) ∧ ((¬ ((σ 1) (34 + 9 * (l3) + 8) = 1) → E_X12_setOf_4 G l1 (kor l2 0) (l3 + 1) σ Q) ∧ (((σ 1) (34 + 9 * (l3) + 8) = 1) → E_X12_setOf_4 G l1 (kor l2 (kshl 1 l3)) (l3 + 1) σ Q))) ∧ (l1 = 0 → (0 ≤ σ 1 7 ∧ σ 1 7 ≤ 2147483647) ∧ (wf (σ 1) ∧ sKt (σ 1) (l3) ∧ sHr ((σ 1 7) % 12)) ∧ ((¬ (sUp (σ 1) (l3) ((σ 1 7) % 12)) → E_X12_setOf_4 G l1 (kor l2 0) (l3 + 1) σ Q) ∧ ((sUp (σ 1) (l3) ((σ 1 7) % 12)) → E_X12_setOf_4 G l1 (kor l2 (kshl 1 l3)) (l3 + 1) σ Q))))))))) : E_X12_setOf_4 G l1 l2 l3 σ Q := by
  refine R_iload_n e_X12_setOf_0.2.2.2.2.1 3 rfl ?_
  refine R_aload_n e_X12_setOf_0.2.2.2.2.2.1 0 rfl ?_
  refine R_getA 12 0 1 e_X12_setOf_0.2.2.2.2.2.2.1 f_X12_7 km_0 (fun _ _ => rfl) rm_0_0 (by decide) ?_
  refine R_iconst e_X12_setOf_0.2.2.2.2.2.2.2.1 ?_
  refine R_iald 3598 e_X12_setOf_0.2.2.2.2.2.2.2.2.1 kma_1 (by decide) ?_
  obtain ⟨q1, h⟩ := h
  obtain ⟨q2, h⟩ := h
  refine R_icmp_ge 62 e_X12_setOf_0.2.2.2.2.2.2.2.2.2 (by decide) q1 q2 (fun q => ?_) (fun q => ?_)
  · replace h := h.1 q
    refine R_iconst e_X12_setOf_3.2.2.2.2.2.2.1 ?_
    refine R_istore_n (ls2 := [(3, vI 0), (0, vA G 0), (1, vI l1), (2, vI l2)]) e_X12_setOf_3.2.2.2.2.2.2.2.1 (by decide) rfl ?_
    refine R_ls (ls2 := [(0, vA G 0), (1, vI l1), (2, vI l2), (3, vI 0)]) [1, 2, 3, 0] rfl ?_
    exact h
  · replace h := h.2 q
    refine R_iload_n e_X12_setOf_1.1 1 rfl ?_
    refine R_iconst e_X12_setOf_1.2.1 ?_
    obtain ⟨q3, h⟩ := h
    refine R_icmp_ge 62 e_X12_setOf_1.2.2.1 (by decide) q3 (by decide) (fun q => ?_) (fun q => ?_)
    · replace h := h.1 q
      refine R_iconst e_X12_setOf_3.2.2.2.2.2.2.1 ?_
      refine R_istore_n (ls2 := [(3, vI 0), (0, vA G 0), (1, vI l1), (2, vI l2)]) e_X12_setOf_3.2.2.2.2.2.2.2.1 (by decide) rfl ?_
      refine R_ls (ls2 := [(0, vA G 0), (1, vI l1), (2, vI l2), (3, vI 0)]) [1, 2, 3, 0] rfl ?_
      exact h
    · replace h := h.2 q
      refine R_iload_n e_X12_setOf_1.2.2.2.1 2 rfl ?_
      refine R_iload_n e_X12_setOf_1.2.2.2.2.1 1 rfl ?_
      refine R_if_ne 39 e_X12_setOf_1.2.2.2.2.2.1 (by decide) q3  (fun q => ?_) (fun q => ?_)
      · replace h := h.1 q
        refine R_aload_n e_X12_setOf_2.2.2.2.1 0 rfl ?_
        refine R_iload_n e_X12_setOf_2.2.2.2.2.1 3 rfl ?_
        obtain ⟨q6, h⟩ := h
        refine R_callV (mc := 0) (ms := 0) (mc' := 0) (ms' := 0) (M' := M_X12_isCut) (d' := 2) (as := [vI l3]) (st := [vI l2]) 12 1 e_X12_setOf_2.2.2.2.2.2.1 (kCVof m_X12_isCut l_X12_271) rfl (by decide) km_0 (by decide) (by decide) rfl rfl (by show (1 : Nat) ≤ 8; decide) ?_
        refine Run.mono (P_X12_isCut q6) (fun r s e => ?_)
        obtain ⟨e1, e2⟩ := e
        refine R_eqs (st2 := [vI (kb ((σ 1) (34 + 9 * (l3) + 8) = 1)), vI l2]) (σ2 := σ) (by rw [e1]; rfl) e2 ?_
        refine R_if_eq 53 e_X12_setOf_2.2.2.2.2.2.2.1 (by decide) (kb_r _) (fun q => ?_) (fun q => ?_)
        · replace h := h.1 (kb_f q)
          refine R_iconst e_X12_setOf_3.2.1 ?_
          refine R_ior e_X12_setOf_3.2.2.1 ?_
          refine R_istore_n (ls2 := [(2, vI (kor l2 0)), (0, vA G 0), (1, vI l1), (3, vI l3)]) e_X12_setOf_3.2.2.2.1 (by decide) rfl ?_
          refine R_iinc (ls2 := [(3, vI (l3 + 1)), (2, vI (kor l2 0)), (0, vA G 0), (1, vI l1)]) e_X12_setOf_3.2.2.2.2.1 3 rfl (by decide) rfl ?_
          refine R_goto 4 e_X12_setOf_3.2.2.2.2.2.1 (by decide) ?_
          refine R_ls (ls2 := [(0, vA G 0), (1, vI l1), (2, vI (kor l2 0)), (3, vI (l3 + 1))]) [2, 3, 1, 0] rfl ?_
          exact h
        · replace h := h.2 (kb_t q)
          refine R_iconst e_X12_setOf_2.2.2.2.2.2.2.2.1 ?_
          refine R_iload_n e_X12_setOf_2.2.2.2.2.2.2.2.2.1 3 rfl ?_
          refine R_ishl e_X12_setOf_2.2.2.2.2.2.2.2.2.2 ?_
          refine R_goto 54 e_X12_setOf_3.1 (by decide) ?_
          refine R_ior e_X12_setOf_3.2.2.1 ?_
          refine R_istore_n (ls2 := [(2, vI (kor l2 (kshl 1 l3))), (0, vA G 0), (1, vI l1), (3, vI l3)]) e_X12_setOf_3.2.2.2.1 (by decide) rfl ?_
          refine R_iinc (ls2 := [(3, vI (l3 + 1)), (2, vI (kor l2 (kshl 1 l3))), (0, vA G 0), (1, vI l1)]) e_X12_setOf_3.2.2.2.2.1 3 rfl (by decide) rfl ?_
          refine R_goto 4 e_X12_setOf_3.2.2.2.2.2.1 (by decide) ?_
          refine R_ls (ls2 := [(0, vA G 0), (1, vI l1), (2, vI (kor l2 (kshl 1 l3))), (3, vI (l3 + 1))]) [2, 3, 1, 0] rfl ?_
          exact h
      · replace h := h.2 q
        refine R_aload_n e_X12_setOf_1.2.2.2.2.2.2.1 0 rfl ?_
        refine R_iload_n e_X12_setOf_1.2.2.2.2.2.2.2.1 3 rfl ?_
        refine R_aload_n e_X12_setOf_1.2.2.2.2.2.2.2.2.1 0 rfl ?_
        refine R_callV (mc := 0) (ms := 0) (mc' := 0) (ms' := 0) (M' := M_X12_now) (d' := 0) (as := []) (st := [vI l3, vA G 0, vI l2]) 12 0 e_X12_setOf_1.2.2.2.2.2.2.2.2.2 (kCVof m_X12_now l_X12_325) rfl (by decide) km_0 (by decide) (by decide) rfl rfl (by show (3 : Nat) ≤ 8; decide) ?_
        obtain ⟨q9, h⟩ := h
        refine S_X12_now ⟨q9, ?_⟩
        refine R_eqs (st2 := [vI ((σ 1 7) % 12), vI l3, vA G 0, vI l2]) (σ2 := σ) rfl rfl ?_
        obtain ⟨q12, h⟩ := h
        refine R_callV (mc := 0) (ms := 0) (mc' := 0) (ms' := 0) (M' := M_X12_isUp) (d' := 3) (as := [vI l3, vI ((σ 1 7) % 12)]) (st := [vI l2]) 12 2 e_X12_setOf_2.1 (kCVof m_X12_isUp l_X12_319) rfl (by decide) km_0 (by decide) (by decide) rfl rfl (by show (1 : Nat) ≤ 8; decide) ?_
        refine Run.mono (P_X12_isUp q12) (fun r s e => ?_)
        obtain ⟨e1, e2⟩ := e
        refine R_eqs (st2 := [vI (kb (sUp (σ 1) (l3) ((σ 1 7) % 12))), vI l2]) (σ2 := σ) (by rw [e1]; rfl) e2 ?_
        refine R_if_eq 53 e_X12_setOf_2.2.1 (by decide) (kb_r _) (fun q => ?_) (fun q => ?_)
        · replace h := h.1 (kb_f q)
          refine R_iconst e_X12_setOf_3.2.1 ?_
          refine R_ior e_X12_setOf_3.2.2.1 ?_
          refine R_istore_n (ls2 := [(2, vI (kor l2 0)), (0, vA G 0), (1, vI l1), (3, vI l3)]) e_X12_setOf_3.2.2.2.1 (by decide) rfl ?_
          refine R_iinc (ls2 := [(3, vI (l3 + 1)), (2, vI (kor l2 0)), (0, vA G 0), (1, vI l1)]) e_X12_setOf_3.2.2.2.2.1 3 rfl (by decide) rfl ?_
          refine R_goto 4 e_X12_setOf_3.2.2.2.2.2.1 (by decide) ?_
          refine R_ls (ls2 := [(0, vA G 0), (1, vI l1), (2, vI (kor l2 0)), (3, vI (l3 + 1))]) [2, 3, 1, 0] rfl ?_
          exact h
        · replace h := h.2 (kb_t q)
          refine R_goto 47 e_X12_setOf_2.2.2.1 (by decide) ?_
          refine R_iconst e_X12_setOf_2.2.2.2.2.2.2.2.1 ?_
          refine R_iload_n e_X12_setOf_2.2.2.2.2.2.2.2.2.1 3 rfl ?_
          refine R_ishl e_X12_setOf_2.2.2.2.2.2.2.2.2.2 ?_
          refine R_goto 54 e_X12_setOf_3.1 (by decide) ?_
          refine R_ior e_X12_setOf_3.2.2.1 ?_
          refine R_istore_n (ls2 := [(2, vI (kor l2 (kshl 1 l3))), (0, vA G 0), (1, vI l1), (3, vI l3)]) e_X12_setOf_3.2.2.2.1 (by decide) rfl ?_
          refine R_iinc (ls2 := [(3, vI (l3 + 1)), (2, vI (kor l2 (kshl 1 l3))), (0, vA G 0), (1, vI l1)]) e_X12_setOf_3.2.2.2.2.1 3 rfl (by decide) rfl ?_
          refine R_goto 4 e_X12_setOf_3.2.2.2.2.2.1 (by decide) ?_
          refine R_ls (ls2 := [(0, vA G 0), (1, vI l1), (2, vI (kor l2 (kshl 1 l3))), (3, vI (l3 + 1))]) [2, 3, 1, 0] rfl ?_
          exact h
theorem S_X12_setOf_64 {G : Kg} {σ : Kmem} {Q : Int → Kmem → Prop} {l1 l2 l3 : Int}  (h : (rI l3) ∧ (rI (σ 1 3)) ∧ ((σ 1 3 ≤ l3 → Q l2 σ) ∧ (l3 < σ 1 3 → (rI l1) ∧ ((l1 ≠ 2 → Q l2 σ) ∧ (l1 = 2 → (wf (σ 1) ∧ (0 : Int) ≤ l3 ∧ (l3 : Int) < (σ 1) 3) ∧ ((¬ ((σ 1) (88 + 4 * (l3) + 2) ≤ (σ 1) (88 + 4 * (l3) + 3)) → E_X12_setOf_64 G l1 (kor l2 0) (l3 + 1) σ Q) ∧ (((σ 1) (88 + 4 * (l3) + 2) ≤ (σ 1) (88 + 4 * (l3) + 3)) → E_X12_setOf_64 G l1 (kor l2 (kshl 1 l3)) (l3 + 1) σ Q))))))) : E_X12_setOf_64 G l1 l2 l3 σ Q := by
  refine R_iload_n e_X12_setOf_3.2.2.2.2.2.2.2.2.1 3 rfl ?_
  refine R_aload_n e_X12_setOf_3.2.2.2.2.2.2.2.2.2 0 rfl ?_
  refine R_getA 12 0 1 e_X12_setOf_4.1 f_X12_7 km_0 (fun _ _ => rfl) rm_0_0 (by decide) ?_
  refine R_iconst e_X12_setOf_4.2.1 ?_
  refine R_iald 3598 e_X12_setOf_4.2.2.1 kma_1 (by decide) ?_
  obtain ⟨q13, h⟩ := h
  obtain ⟨q14, h⟩ := h
  refine R_icmp_ge 103 e_X12_setOf_4.2.2.2.1 (by decide) q13 q14 (fun q => ?_) (fun q => ?_)
  · replace h := h.1 q
    refine R_iload_n e_X12_setOf_6.2.1 2 rfl ?_
    exact R_ireturn e_X12_setOf_6.2.2 rfl h
  · replace h := h.2 q
    refine R_iload_n e_X12_setOf_4.2.2.2.2.1 1 rfl ?_
    refine R_iconst e_X12_setOf_4.2.2.2.2.2.1 ?_
    obtain ⟨q15, h⟩ := h
    refine R_icmp_ne 103 e_X12_setOf_4.2.2.2.2.2.2.1 (by decide) q15 (by decide) (fun q => ?_) (fun q => ?_)
    · replace h := h.1 q
      refine R_iload_n e_X12_setOf_6.2.1 2 rfl ?_
      exact R_ireturn e_X12_setOf_6.2.2 rfl h
    · replace h := h.2 q
      refine R_iload_n e_X12_setOf_4.2.2.2.2.2.2.2.1 2 rfl ?_
      refine R_aload_n e_X12_setOf_4.2.2.2.2.2.2.2.2.1 0 rfl ?_
      refine R_iload_n e_X12_setOf_4.2.2.2.2.2.2.2.2.2 3 rfl ?_
      obtain ⟨q18, h⟩ := h
      refine R_callV (mc := 0) (ms := 0) (mc' := 0) (ms' := 0) (M' := M_X12_isRipe) (d' := 1) (as := [vI l3]) (st := [vI l2]) 12 1 e_X12_setOf_5.1 (kCVof m_X12_isRipe l_X12_331) rfl (by decide) km_0 (by decide) (by decide) rfl rfl (by show (1 : Nat) ≤ 8; decide) ?_
      refine Run.mono (P_X12_isRipe q18) (fun r s e => ?_)
      obtain ⟨e1, e2⟩ := e
      refine R_eqs (st2 := [vI (kb ((σ 1) (88 + 4 * (l3) + 2) ≤ (σ 1) (88 + 4 * (l3) + 3))), vI l2]) (σ2 := σ) (by rw [e1]; rfl) e2 ?_
      refine R_if_eq 94 e_X12_setOf_5.2.1 (by decide) (kb_r _) (fun q => ?_) (fun q => ?_)
      · replace h := h.1 (kb_f q)
        refine R_iconst e_X12_setOf_5.2.2.2.2.2.2.1 ?_
        refine R_ior e_X12_setOf_5.2.2.2.2.2.2.2.1 ?_
        refine R_istore_n (ls2 := [(2, vI (kor l2 0)), (0, vA G 0), (1, vI l1), (3, vI l3)]) e_X12_setOf_5.2.2.2.2.2.2.2.2.1 (by decide) rfl ?_
        refine R_iinc (ls2 := [(3, vI (l3 + 1)), (2, vI (kor l2 0)), (0, vA G 0), (1, vI l1)]) e_X12_setOf_5.2.2.2.2.2.2.2.2.2 3 rfl (by decide) rfl ?_
        refine R_goto 64 e_X12_setOf_6.1 (by decide) ?_
        refine R_ls (ls2 := [(0, vA G 0), (1, vI l1), (2, vI (kor l2 0)), (3, vI (l3 + 1))]) [2, 3, 1, 0] rfl ?_
        exact h
      · replace h := h.2 (kb_t q)
        refine R_iconst e_X12_setOf_5.2.2.1 ?_
        refine R_iload_n e_X12_setOf_5.2.2.2.1 3 rfl ?_
        refine R_ishl e_X12_setOf_5.2.2.2.2.1 ?_
        refine R_goto 95 e_X12_setOf_5.2.2.2.2.2.1 (by decide) ?_
        refine R_ior e_X12_setOf_5.2.2.2.2.2.2.2.1 ?_
        refine R_istore_n (ls2 := [(2, vI (kor l2 (kshl 1 l3))), (0, vA G 0), (1, vI l1), (3, vI l3)]) e_X12_setOf_5.2.2.2.2.2.2.2.2.1 (by decide) rfl ?_
        refine R_iinc (ls2 := [(3, vI (l3 + 1)), (2, vI (kor l2 (kshl 1 l3))), (0, vA G 0), (1, vI l1)]) e_X12_setOf_5.2.2.2.2.2.2.2.2.2 3 rfl (by decide) rfl ?_
        refine R_goto 64 e_X12_setOf_6.1 (by decide) ?_
        refine R_ls (ls2 := [(0, vA G 0), (1, vI l1), (2, vI (kor l2 (kshl 1 l3))), (3, vI (l3 + 1))]) [2, 3, 1, 0] rfl ?_
        exact h
/-! KiteLandModel.stepsTo(III)I -/
theorem e_X12_stepsTo_0 : decode cX12_stepsTo 0 = .ok (.aload_n 0, 1) ∧ decode cX12_stepsTo 1 = .ok (.getfield 7, 3) ∧ decode cX12_stepsTo 4 = .ok (.iload_n 1, 1) ∧ decode cX12_stepsTo 5 = .ok (.invokestatic 352, 3) ∧ decode cX12_stepsTo 8 = .ok (.iaload, 1) ∧ decode cX12_stepsTo 9 = .ok (.iload_n 2, 1) ∧ decode cX12_stepsTo 10 = .ok (.isub, 1) ∧ decode cX12_stepsTo 11 = .ok (.invokestatic 289, 3) ∧ decode cX12_stepsTo 14 = .ok (.aload_n 0, 1) ∧ decode cX12_stepsTo 15 = .ok (.getfield 7, 3) := by decide +kernel
theorem e_X12_stepsTo_1 : decode cX12_stepsTo 18 = .ok (.iload_n 1, 1) ∧ decode cX12_stepsTo 19 = .ok (.invokestatic 352, 3) ∧ decode cX12_stepsTo 22 = .ok (.iconst 1, 1) ∧ decode cX12_stepsTo 23 = .ok (.iadd, 1) ∧ decode cX12_stepsTo 24 = .ok (.iaload, 1) ∧ decode cX12_stepsTo 25 = .ok (.iload_n 3, 1) ∧ decode cX12_stepsTo 26 = .ok (.isub, 1) ∧ decode cX12_stepsTo 27 = .ok (.invokestatic 289, 3) ∧ decode cX12_stepsTo 30 = .ok (.iadd, 1) ∧ decode cX12_stepsTo 31 = .ok (.ireturn, 1) := by decide +kernel
theorem S_X12_stepsTo {G : Kg} {σ : Kmem} {Q : Int → Kmem → Prop} {l1 l2 l3 : Int}  (h : (0 ≤ 120 + (5 * l1) ∧ 120 + (5 * l1) < 3598) ∧ (rI ((σ 1 (120 + (5 * l1))) - l2) ∧ (σ 1 (120 + (5 * l1))) - l2 ≠ -2147483648) ∧ (0 ≤ (120 + (5 * l1)) + 1 ∧ (120 + (5 * l1)) + 1 < 3598) ∧ (rI ((σ 1 ((120 + (5 * l1)) + 1)) - l3) ∧ (σ 1 ((120 + (5 * l1)) + 1)) - l3 ≠ -2147483648) ∧ Q ((kabs ((σ 1 (120 + (5 * l1))) - l2)) + (kabs ((σ 1 ((120 + (5 * l1)) + 1)) - l3))) σ) : Run G WM M_X12_stepsTo 1 0 0 [vA G 0, vI l1, vI l2, vI l3] σ Q := by
  refine Run.of (by decide +kernel) (by show (4 : Nat) ≤ 4; decide) ?_
  show Ex G WM M_X12_stepsTo 1 0 0 0 [(0, vA G 0), (1, vI l1), (2, vI l2), (3, vI l3)] [] σ Q
  refine R_aload_n e_X12_stepsTo_0.1 0 rfl ?_
  refine R_getA 12 0 1 e_X12_stepsTo_0.2.1 f_X12_7 km_0 (fun _ _ => rfl) rm_0_0 (by decide) ?_
  refine R_iload_n e_X12_stepsTo_0.2.2.1 1 rfl ?_
  refine R_callS (mc := 0) (ms := 0) (mc' := 0) (ms' := 0) (M' := M_X12_tenantRow) (d' := 0) (as := [vI l1]) (st := [vA G 1]) 1 e_X12_stepsTo_0.2.2.2.1 (kCSof m_X12_tenantRow l_X12_352) (by decide) (by decide) rfl rfl (by show (1 : Nat) ≤ 8; decide) ?_
  refine S_X12_tenantRow ?_
  refine R_eqs (st2 := [vI (120 + (5 * l1)), vA G 1]) (σ2 := σ) rfl rfl ?_
  obtain ⟨q3, h⟩ := h
  refine R_iald 3598 e_X12_stepsTo_0.2.2.2.2.1 kma_1 q3 ?_
  refine R_iload_n e_X12_stepsTo_0.2.2.2.2.2.1 2 rfl ?_
  refine R_isub e_X12_stepsTo_0.2.2.2.2.2.2.1 ?_
  obtain ⟨q6, h⟩ := h
  refine R_callS (mc := 0) (ms := 0) (mc' := 0) (ms' := 0) (M' := M_J9_abs_0f7a4) (d' := 0) (as := [vI ((σ 1 (120 + (5 * l1))) - l2)]) (st := []) 1 e_X12_stepsTo_0.2.2.2.2.2.2.2.1 (kCSof m_J9_abs_0f7a4 l_X12_289) (by decide) (by decide) rfl rfl (by show (0 : Nat) ≤ 8; decide) ?_
  refine Run.mono (P_J9_abs_0f7a4 q6) (fun r s e => ?_)
  obtain ⟨e1, e2⟩ := e
  refine R_eqs (st2 := [vI (kabs ((σ 1 (120 + (5 * l1))) - l2))]) (σ2 := σ) (by rw [e1]; rfl) e2 ?_
  refine R_aload_n e_X12_stepsTo_0.2.2.2.2.2.2.2.2.1 0 rfl ?_
  refine R_getA 12 0 1 e_X12_stepsTo_0.2.2.2.2.2.2.2.2.2 f_X12_7 km_0 (fun _ _ => rfl) rm_0_0 (by decide) ?_
  refine R_iload_n e_X12_stepsTo_1.1 1 rfl ?_
  refine R_callS (mc := 0) (ms := 0) (mc' := 0) (ms' := 0) (M' := M_X12_tenantRow) (d' := 0) (as := [vI l1]) (st := [vA G 1, vI (kabs ((σ 1 (120 + (5 * l1))) - l2))]) 1 e_X12_stepsTo_1.2.1 (kCSof m_X12_tenantRow l_X12_352) (by decide) (by decide) rfl rfl (by show (2 : Nat) ≤ 8; decide) ?_
  refine S_X12_tenantRow ?_
  refine R_eqs (st2 := [vI (120 + (5 * l1)), vA G 1, vI (kabs ((σ 1 (120 + (5 * l1))) - l2))]) (σ2 := σ) rfl rfl ?_
  refine R_iconst e_X12_stepsTo_1.2.2.1 ?_
  refine R_iadd e_X12_stepsTo_1.2.2.2.1 ?_
  obtain ⟨q9, h⟩ := h
  refine R_iald 3598 e_X12_stepsTo_1.2.2.2.2.1 kma_1 q9 ?_
  refine R_iload_n e_X12_stepsTo_1.2.2.2.2.2.1 3 rfl ?_
  refine R_isub e_X12_stepsTo_1.2.2.2.2.2.2.1 ?_
  obtain ⟨q12, h⟩ := h
  refine R_callS (mc := 0) (ms := 0) (mc' := 0) (ms' := 0) (M' := M_J9_abs_0f7a4) (d' := 0) (as := [vI ((σ 1 ((120 + (5 * l1)) + 1)) - l3)]) (st := [vI (kabs ((σ 1 (120 + (5 * l1))) - l2))]) 1 e_X12_stepsTo_1.2.2.2.2.2.2.2.1 (kCSof m_J9_abs_0f7a4 l_X12_289) (by decide) (by decide) rfl rfl (by show (1 : Nat) ≤ 8; decide) ?_
  refine Run.mono (P_J9_abs_0f7a4 q12) (fun r s e => ?_)
  obtain ⟨e1, e2⟩ := e
  refine R_eqs (st2 := [vI (kabs ((σ 1 ((120 + (5 * l1)) + 1)) - l3)), vI (kabs ((σ 1 (120 + (5 * l1))) - l2))]) (σ2 := σ) (by rw [e1]; rfl) e2 ?_
  refine R_iadd e_X12_stepsTo_1.2.2.2.2.2.2.2.2.1 ?_
  exact R_ireturn e_X12_stepsTo_1.2.2.2.2.2.2.2.2.2 rfl h
/-! KiteLandModel.stripAt(III)I -/
theorem e_X12_stripAt_0 : decode cX12_stripAt 0 = .ok (.iconst 0, 1) ∧ decode cX12_stripAt 1 = .ok (.istore 4, 2) ∧ decode cX12_stripAt 3 = .ok (.iconst 0, 1) ∧ decode cX12_stripAt 4 = .ok (.istore 5, 2) ∧ decode cX12_stripAt 6 = .ok (.iload 5, 2) ∧ decode cX12_stripAt 8 = .ok (.bipush 12, 2) ∧ decode cX12_stripAt 10 = .ok (.if_icmp .ge 31, 3) ∧ decode cX12_stripAt 13 = .ok (.iload 4, 2) ∧ decode cX12_stripAt 15 = .ok (.aload_n 0, 1) ∧ decode cX12_stripAt 16 = .ok (.iload_n 1, 1) := by decide +kernel
theorem e_X12_stripAt_1 : decode cX12_stripAt 17 = .ok (.iload_n 2, 1) ∧ decode cX12_stripAt 18 = .ok (.iload_n 3, 1) ∧ decode cX12_stripAt 19 = .ok (.iload 5, 2) ∧ decode cX12_stripAt 21 = .ok (.invokevirtual 295, 3) ∧ decode cX12_stripAt 24 = .ok (.ifCond .eq 7, 3) ∧ decode cX12_stripAt 27 = .ok (.iconst 1, 1) ∧ decode cX12_stripAt 28 = .ok (.goto 4, 3) ∧ decode cX12_stripAt 31 = .ok (.iconst 0, 1) ∧ decode cX12_stripAt 32 = .ok (.iadd, 1) ∧ decode cX12_stripAt 33 = .ok (.istore 4, 2) := by decide +kernel
theorem e_X12_stripAt_2 : decode cX12_stripAt 35 = .ok (.iinc 5 1, 3) ∧ decode cX12_stripAt 38 = .ok (.goto (-32), 3) ∧ decode cX12_stripAt 41 = .ok (.iload 4, 2) ∧ decode cX12_stripAt 43 = .ok (.ireturn, 1) := by decide +kernel
abbrev E_X12_stripAt_6 (G : Kg) (l1 l2 l3 l4 l5 : Int) (σ : Kmem) (Q : Int → Kmem → Prop) : Prop := Ex G WM M_X12_stripAt 5 0 0 6 [(0, vA G 0), (1, vI l1), (2, vI l2), (3, vI l3), (4, vI l4), (5, vI l5)] [] σ Q
theorem S_X12_stripAt {G : Kg} {σ : Kmem} {Q : Int → Kmem → Prop} {l1 l2 l3 : Int}  (h : E_X12_stripAt_6 G l1 l2 l3 0 0 σ Q) : Run G WM M_X12_stripAt 5 0 0 [vA G 0, vI l1, vI l2, vI l3] σ Q := by
  refine Run.of (by decide +kernel) (by show (4 : Nat) ≤ 6; decide) ?_
  show Ex G WM M_X12_stripAt 5 0 0 0 [(0, vA G 0), (1, vI l1), (2, vI l2), (3, vI l3)] [] σ Q
  refine R_iconst e_X12_stripAt_0.1 ?_
  refine R_istore (ls2 := [(4, vI 0), (0, vA G 0), (1, vI l1), (2, vI l2), (3, vI l3)]) e_X12_stripAt_0.2.1 (by decide) rfl ?_
  refine R_iconst e_X12_stripAt_0.2.2.1 ?_
  refine R_istore (ls2 := [(5, vI 0), (4, vI 0), (0, vA G 0), (1, vI l1), (2, vI l2), (3, vI l3)]) e_X12_stripAt_0.2.2.2.1 (by decide) rfl ?_
  refine R_ls (ls2 := [(0, vA G 0), (1, vI l1), (2, vI l2), (3, vI l3), (4, vI 0), (5, vI 0)]) [2, 3, 4, 5, 1, 0] rfl ?_
  exact h
theorem S_X12_stripAt_6 {G : Kg} {σ : Kmem} {Q : Int → Kmem → Prop} {l1 l2 l3 l4 l5 : Int}  (h : (rI l5) ∧ ((12 ≤ l5 → Q l4 σ) ∧ (l5 < 12 → (wf (σ 1) ∧ sKt (σ 1) (l1) ∧ sHr (l5) ∧ ((0 : Int) ≤ l2 ∧ (l2 : Int) ≤ 100) ∧ (0 : Int) ≤ l3 ∧ (l3 : Int) ≤ 100) ∧ ((¬ (sShd (σ 1) (l1) (l2) (l3) (l5)) → E_X12_stripAt_6 G l1 l2 l3 (l4 + 0) (l5 + 1) σ Q) ∧ ((sShd (σ 1) (l1) (l2) (l3) (l5)) → E_X12_stripAt_6 G l1 l2 l3 (l4 + 1) (l5 + 1) σ Q))))) : E_X12_stripAt_6 G l1 l2 l3 l4 l5 σ Q := by
  refine R_iload e_X12_stripAt_0.2.2.2.2.1 5 rfl ?_
  refine R_bipush e_X12_stripAt_0.2.2.2.2.2.1 (by decide) ?_
  obtain ⟨q1, h⟩ := h
  refine R_icmp_ge 41 e_X12_stripAt_0.2.2.2.2.2.2.1 (by decide) q1 (by decide) (fun q => ?_) (fun q => ?_)
  · replace h := h.1 q
    refine R_iload e_X12_stripAt_2.2.2.1 4 rfl ?_
    exact R_ireturn e_X12_stripAt_2.2.2.2 rfl h
  · replace h := h.2 q
    refine R_iload e_X12_stripAt_0.2.2.2.2.2.2.2.1 4 rfl ?_
    refine R_aload_n e_X12_stripAt_0.2.2.2.2.2.2.2.2.1 0 rfl ?_
    refine R_iload_n e_X12_stripAt_0.2.2.2.2.2.2.2.2.2 1 rfl ?_
    refine R_iload_n e_X12_stripAt_1.1 2 rfl ?_
    refine R_iload_n e_X12_stripAt_1.2.1 3 rfl ?_
    refine R_iload e_X12_stripAt_1.2.2.1 5 rfl ?_
    obtain ⟨q4, h⟩ := h
    refine R_callV (mc := 0) (ms := 0) (mc' := 0) (ms' := 0) (M' := M_X12_doesShade) (d' := 4) (as := [vI l1, vI l2, vI l3, vI l5]) (st := [vI l4]) 12 4 e_X12_stripAt_1.2.2.2.1 (kCVof m_X12_doesShade l_X12_295) rfl (by decide) km_0 (by decide) (by decide) rfl rfl (by show (1 : Nat) ≤ 8; decide) ?_
    refine Run.mono (P_X12_doesShade q4) (fun r s e => ?_)
    obtain ⟨e1, e2⟩ := e
    refine R_eqs (st2 := [vI (kb (sShd (σ 1) (l1) (l2) (l3) (l5))), vI l4]) (σ2 := σ) (by rw [e1]; rfl) e2 ?_
    refine R_if_eq 31 e_X12_stripAt_1.2.2.2.2.1 (by decide) (kb_r _) (fun q => ?_) (fun q => ?_)
    · replace h := h.1 (kb_f q)
      refine R_iconst e_X12_stripAt_1.2.2.2.2.2.2.2.1 ?_
      refine R_iadd e_X12_stripAt_1.2.2.2.2.2.2.2.2.1 ?_
      refine R_istore (ls2 := [(4, vI (l4 + 0)), (0, vA G 0), (1, vI l1), (2, vI l2), (3, vI l3), (5, vI l5)]) e_X12_stripAt_1.2.2.2.2.2.2.2.2.2 (by decide) rfl ?_
      refine R_iinc (ls2 := [(5, vI (l5 + 1)), (4, vI (l4 + 0)), (0, vA G 0), (1, vI l1), (2, vI l2), (3, vI l3)]) e_X12_stripAt_2.1 5 rfl (by decide) rfl ?_
      refine R_goto 6 e_X12_stripAt_2.2.1 (by decide) ?_
      refine R_ls (ls2 := [(0, vA G 0), (1, vI l1), (2, vI l2), (3, vI l3), (4, vI (l4 + 0)), (5, vI (l5 + 1))]) [2, 3, 4, 5, 1, 0] rfl ?_
      exact h
    · replace h := h.2 (kb_t q)
      refine R_iconst e_X12_stripAt_1.2.2.2.2.2.1 ?_
      refine R_goto 32 e_X12_stripAt_1.2.2.2.2.2.2.1 (by decide) ?_
      refine R_iadd e_X12_stripAt_1.2.2.2.2.2.2.2.2.1 ?_
      refine R_istore (ls2 := [(4, vI (l4 + 1)), (0, vA G 0), (1, vI l1), (2, vI l2), (3, vI l3), (5, vI l5)]) e_X12_stripAt_1.2.2.2.2.2.2.2.2.2 (by decide) rfl ?_
      refine R_iinc (ls2 := [(5, vI (l5 + 1)), (4, vI (l4 + 1)), (0, vA G 0), (1, vI l1), (2, vI l2), (3, vI l3)]) e_X12_stripAt_2.1 5 rfl (by decide) rfl ?_
      refine R_goto 6 e_X12_stripAt_2.2.1 (by decide) ?_
      refine R_ls (ls2 := [(0, vA G 0), (1, vI l1), (2, vI l2), (3, vI l3), (4, vI (l4 + 1)), (5, vI (l5 + 1))]) [2, 3, 4, 5, 1, 0] rfl ?_
      exact h
/-! KiteLandModel.lostBy(I)I -/
theorem e_X12_lostBy_0 : decode cX12_lostBy 0 = .ok (.iconst 0, 1) ∧ decode cX12_lostBy 1 = .ok (.istore_n 2, 1) ∧ decode cX12_lostBy 2 = .ok (.iconst 0, 1) ∧ decode cX12_lostBy 3 = .ok (.istore_n 3, 1) ∧ decode cX12_lostBy 4 = .ok (.iload_n 3, 1) ∧ decode cX12_lostBy 5 = .ok (.aload_n 0, 1) ∧ decode cX12_lostBy 6 = .ok (.getfield 7, 3) ∧ decode cX12_lostBy 9 = .ok (.iconst 0, 1) ∧ decode cX12_lostBy 10 = .ok (.iaload, 1) ∧ decode cX12_lostBy 11 = .ok (.if_icmp .ge 76, 3) := by decide +kernel
theorem e_X12_lostBy_1 : decode cX12_lostBy 14 = .ok (.iconst 0, 1) ∧ decode cX12_lostBy 15 = .ok (.istore 4, 2) ∧ decode cX12_lostBy 17 = .ok (.iload 4, 2) ∧ decode cX12_lostBy 19 = .ok (.aload_n 0, 1) ∧ decode cX12_lostBy 20 = .ok (.getfield 7, 3) ∧ decode cX12_lostBy 23 = .ok (.iconst 1, 1) ∧ decode cX12_lostBy 24 = .ok (.iaload, 1) ∧ decode cX12_lostBy 25 = .ok (.if_icmp .ge 56, 3) ∧ decode cX12_lostBy 28 = .ok (.aload_n 0, 1) ∧ decode cX12_lostBy 29 = .ok (.iload_n 3, 1) := by decide +kernel
theorem e_X12_lostBy_2 : decode cX12_lostBy 30 = .ok (.iload 4, 2) ∧ decode cX12_lostBy 32 = .ok (.aload_n 0, 1) ∧ decode cX12_lostBy 33 = .ok (.invokevirtual 325, 3) ∧ decode cX12_lostBy 36 = .ok (.invokevirtual 305, 3) ∧ decode cX12_lostBy 39 = .ok (.istore 5, 2) ∧ decode cX12_lostBy 41 = .ok (.iload_n 2, 1) ∧ decode cX12_lostBy 42 = .ok (.aload_n 0, 1) ∧ decode cX12_lostBy 43 = .ok (.iload 5, 2) ∧ decode cX12_lostBy 45 = .ok (.invokevirtual 309, 3) ∧ decode cX12_lostBy 48 = .ok (.iconst (-1), 1) := by decide +kernel
theorem e_X12_lostBy_3 : decode cX12_lostBy 49 = .ok (.if_icmp .eq 23, 3) ∧ decode cX12_lostBy 52 = .ok (.aload_n 0, 1) ∧ decode cX12_lostBy 53 = .ok (.iload 5, 2) ∧ decode cX12_lostBy 55 = .ok (.iconst 1, 1) ∧ decode cX12_lostBy 56 = .ok (.iload_n 1, 1) ∧ decode cX12_lostBy 57 = .ok (.ishl, 1) ∧ decode cX12_lostBy 58 = .ok (.iconst (-1), 1) ∧ decode cX12_lostBy 59 = .ok (.ixor, 1) ∧ decode cX12_lostBy 60 = .ok (.iand, 1) ∧ decode cX12_lostBy 61 = .ok (.invokevirtual 309, 3) := by decide +kernel
theorem e_X12_lostBy_4 : decode cX12_lostBy 64 = .ok (.iconst (-1), 1) ∧ decode cX12_lostBy 65 = .ok (.if_icmp .ne 7, 3) ∧ decode cX12_lostBy 68 = .ok (.iconst 1, 1) ∧ decode cX12_lostBy 69 = .ok (.goto 4, 3) ∧ decode cX12_lostBy 72 = .ok (.iconst 0, 1) ∧ decode cX12_lostBy 73 = .ok (.iadd, 1) ∧ decode cX12_lostBy 74 = .ok (.istore_n 2, 1) ∧ decode cX12_lostBy 75 = .ok (.iinc 4 1, 3) ∧ decode cX12_lostBy 78 = .ok (.goto (-61), 3) ∧ decode cX12_lostBy 81 = .ok (.iinc 3 1, 3) := by decide +kernel
theorem e_X12_lostBy_5 : decode cX12_lostBy 84 = .ok (.goto (-80), 3) ∧ decode cX12_lostBy 87 = .ok (.iload_n 2, 1) ∧ decode cX12_lostBy 88 = .ok (.ireturn, 1) := by decide +kernel
abbrev E_X12_lostBy_4 (G : Kg) (l1 l2 l3 : Int) (σ : Kmem) (Q : Int → Kmem → Prop) : Prop := Ex G WM M_X12_lostBy 6 0 0 4 [(0, vA G 0), (1, vI l1), (2, vI l2), (3, vI l3)] [] σ Q
abbrev E_X12_lostBy_17 (G : Kg) (l1 l2 l3 l4 : Int) (σ : Kmem) (Q : Int → Kmem → Prop) : Prop := Ex G WM M_X12_lostBy 6 0 0 17 [(0, vA G 0), (1, vI l1), (2, vI l2), (3, vI l3), (4, vI l4)] [] σ Q
theorem S_X12_lostBy {G : Kg} {σ : Kmem} {Q : Int → Kmem → Prop} {l1 : Int}  (h : E_X12_lostBy_4 G l1 0 0 σ Q) : Run G WM M_X12_lostBy 6 0 0 [vA G 0, vI l1] σ Q := by
  refine Run.of (by decide +kernel) (by show (2 : Nat) ≤ 6; decide) ?_
  show Ex G WM M_X12_lostBy 6 0 0 0 [(0, vA G 0), (1, vI l1)] [] σ Q
  refine R_iconst e_X12_lostBy_0.1 ?_
  refine R_istore_n (ls2 := [(2, vI 0), (0, vA G 0), (1, vI l1)]) e_X12_lostBy_0.2.1 (by decide) rfl ?_
  refine R_iconst e_X12_lostBy_0.2.2.1 ?_
  refine R_istore_n (ls2 := [(3, vI 0), (2, vI 0), (0, vA G 0), (1, vI l1)]) e_X12_lostBy_0.2.2.2.1 (by decide) rfl ?_
  refine R_ls (ls2 := [(0, vA G 0), (1, vI l1), (2, vI 0), (3, vI 0)]) [2, 3, 1, 0] rfl ?_
  exact h
theorem S_X12_lostBy_4 {G : Kg} {σ : Kmem} {Q : Int → Kmem → Prop} {l1 l2 l3 : Int}  (h : (rI l3) ∧ (rI (σ 1 0)) ∧ ((σ 1 0 ≤ l3 → Q l2 σ) ∧ (l3 < σ 1 0 → E_X12_lostBy_17 G l1 l2 l3 0 σ Q))) : E_X12_lostBy_4 G l1 l2 l3 σ Q := by
  refine R_iload_n e_X12_lostBy_0.2.2.2.2.1 3 rfl ?_
  refine R_aload_n e_X12_lostBy_0.2.2.2.2.2.1 0 rfl ?_
  refine R_getA 12 0 1 e_X12_lostBy_0.2.2.2.2.2.2.1 f_X12_7 km_0 (fun _ _ => rfl) rm_0_0 (by decide) ?_
  refine R_iconst e_X12_lostBy_0.2.2.2.2.2.2.2.1 ?_
  refine R_iald 3598 e_X12_lostBy_0.2.2.2.2.2.2.2.2.1 kma_1 (by decide) ?_
  obtain ⟨q1, h⟩ := h
  obtain ⟨q2, h⟩ := h
  refine R_icmp_ge 87 e_X12_lostBy_0.2.2.2.2.2.2.2.2.2 (by decide) q1 q2 (fun q => ?_) (fun q => ?_)
  · replace h := h.1 q
    refine R_iload_n e_X12_lostBy_5.2.1 2 rfl ?_
    exact R_ireturn e_X12_lostBy_5.2.2 rfl h
  · replace h := h.2 q
    refine R_iconst e_X12_lostBy_1.1 ?_
    refine R_istore (ls2 := [(4, vI 0), (0, vA G 0), (1, vI l1), (2, vI l2), (3, vI l3)]) e_X12_lostBy_1.2.1 (by decide) rfl ?_
    refine R_ls (ls2 := [(0, vA G 0), (1, vI l1), (2, vI l2), (3, vI l3), (4, vI 0)]) [1, 2, 3, 4, 0] rfl ?_
    exact h
theorem S_X12_lostBy_17 {G : Kg} {σ : Kmem} {Q : Int → Kmem → Prop} {l1 l2 l3 l4 : Int}  (h : (rI l4) ∧ (rI (σ 1 1)) ∧ ((σ 1 1 ≤ l4 → E_X12_lostBy_4 G l1 l2 (l3 + 1) σ Q) ∧ (l4 < σ 1 1 → (0 ≤ σ 1 7 ∧ σ 1 7 ≤ 2147483647) ∧ (wf (σ 1) ∧ ((0 : Int) ≤ l3 ∧ (l3 : Int) ≤ 100) ∧ ((0 : Int) ≤ l4 ∧ (l4 : Int) ≤ 100) ∧ sHr ((σ 1 7) % 12)) ∧ (wf (σ 1) ∧ (0 : Int) ≤ (sShs (σ 1) (l3) (l4) ((σ 1 7) % 12) : Int) ∧ ((sShs (σ 1) (l3) (l4) ((σ 1 7) % 12) : Int) : Int) < 64) ∧ (rI (sOwnBy (σ 1) ((sShs (σ 1) (l3) (l4) ((σ 1 7) % 12) : Int)))) ∧ ((sOwnBy (σ 1) ((sShs (σ 1) (l3) (l4) ((σ 1 7) % 12) : Int)) = -1 → E_X12_lostBy_17 G l1 (l2 + 0) l3 (l4 + 1) σ Q) ∧ (sOwnBy (σ 1) ((sShs (σ 1) (l3) (l4) ((σ 1 7) % 12) : Int)) ≠ -1 → (wf (σ 1) ∧ (0 : Int) ≤ kand (sShs (σ 1) (l3) (l4) ((σ 1 7) % 12) : Int) (kxor (kshl 1 l1) (-1)) ∧ (kand (sShs (σ 1) (l3) (l4) ((σ 1 7) % 12) : Int) (kxor (kshl 1 l1) (-1)) : Int) < 64) ∧ (rI (sOwnBy (σ 1) (kand (sShs (σ 1) (l3) (l4) ((σ 1 7) % 12) : Int) (kxor (kshl 1 l1) (-1))))) ∧ ((sOwnBy (σ 1) (kand (sShs (σ 1) (l3) (l4) ((σ 1 7) % 12) : Int) (kxor (kshl 1 l1) (-1))) ≠ -1 → E_X12_lostBy_17 G l1 (l2 + 0) l3 (l4 + 1) σ Q) ∧ (sOwnBy (σ 1) (kand (sShs (σ 1) (l3) (l4) ((σ 1 7) % 12) : Int) (kxor (kshl 1 l1) (-1))) = -1 → E_X12_lostBy_17 G l1 (l2 + 1) l3 (l4 + 1) σ Q))))))) : E_X12_lostBy_17 G l1 l2 l3 l4 σ Q := by
  refine R_iload e_X12_lostBy_1.2.2.1 4 rfl ?_
  refine R_aload_n e_X12_lostBy_1.2.2.2.1 0 rfl ?_
  refine R_getA 12 0 1 e_X12_lostBy_1.2.2.2.2.1 f_X12_7 km_0 (fun _ _ => rfl) rm_0_0 (by decide) ?_
  refine R_iconst e_X12_lostBy_1.2.2.2.2.2.1 ?_
  refine R_iald 3598 e_X12_lostBy_1.2.2.2.2.2.2.1 kma_1 (by decide) ?_
  obtain ⟨q3, h⟩ := h
  obtain ⟨q4, h⟩ := h
  refine R_icmp_ge 81 e_X12_lostBy_1.2.2.2.2.2.2.2.1 (by decide) q3 q4 (fun q => ?_) (fun q => ?_)
  · replace h := h.1 q
    refine R_iinc (ls2 := [(3, vI (l3 + 1)), (0, vA G 0), (1, vI l1), (2, vI l2), (4, vI l4)]) e_X12_lostBy_4.2.2.2.2.2.2.2.2.2 3 rfl (by decide) rfl ?_
    refine R_goto 4 e_X12_lostBy_5.1 (by decide) ?_
    refine R_ls (ls2 := [(0, vA G 0), (1, vI l1), (2, vI l2), (3, vI (l3 + 1))]) [1, 2, 3, 0] rfl ?_
    exact h
  · replace h := h.2 q
    refine R_aload_n e_X12_lostBy_1.2.2.2.2.2.2.2.2.1 0 rfl ?_
    refine R_iload_n e_X12_lostBy_1.2.2.2.2.2.2.2.2.2 3 rfl ?_
    refine R_iload e_X12_lostBy_2.1 4 rfl ?_
    refine R_aload_n e_X12_lostBy_2.2.1 0 rfl ?_
    refine R_callV (mc := 0) (ms := 0) (mc' := 0) (ms' := 0) (M' := M_X12_now) (d' := 0) (as := []) (st := [vI l4, vI l3, vA G 0]) 12 0 e_X12_lostBy_2.2.2.1 (kCVof m_X12_now l_X12_325) rfl (by decide) km_0 (by decide) (by decide) rfl rfl (by show (3 : Nat) ≤ 8; decide) ?_
    obtain ⟨q7, h⟩ := h
    refine S_X12_now ⟨q7, ?_⟩
    refine R_eqs (st2 := [vI ((σ 1 7) % 12), vI l4, vI l3, vA G 0]) (σ2 := σ) rfl rfl ?_
    obtain ⟨q10, h⟩ := h
    refine R_callV (mc := 0) (ms := 0) (mc' := 0) (ms' := 0) (M' := M_X12_shadersOf) (d' := 5) (as := [vI l3, vI l4, vI ((σ 1 7) % 12)]) (st := []) 12 3 e_X12_lostBy_2.2.2.2.1 (kCVof m_X12_shadersOf l_X12_305) rfl (by decide) km_0 (by decide) (by decide) rfl rfl (by show (0 : Nat) ≤ 8; decide) ?_
    refine Run.mono (P_X12_shadersOf q10) (fun r s e => ?_)
    obtain ⟨e1, e2⟩ := e
    refine R_eqs (st2 := [vI (sShs (σ 1) (l3) (l4) ((σ 1 7) % 12) : Int)]) (σ2 := σ) (by rw [e1]; rfl) e2 ?_
    refine R_istore (ls2 := [(5, vI (sShs (σ 1) (l3) (l4) ((σ 1 7) % 12) : Int)), (0, vA G 0), (1, vI l1), (2, vI l2), (3, vI l3), (4, vI l4)]) e_X12_lostBy_2.2.2.2.2.1 (by decide) rfl ?_
    refine R_iload_n e_X12_lostBy_2.2.2.2.2.2.1 3 rfl ?_
    refine R_aload_n e_X12_lostBy_2.2.2.2.2.2.2.1 1 rfl ?_
    refine R_iload e_X12_lostBy_2.2.2.2.2.2.2.2.1 0 rfl ?_
    obtain ⟨q13, h⟩ := h
    refine R_callV (mc := 0) (ms := 0) (mc' := 0) (ms' := 0) (M' := M_X12_ownerBy) (d' := 2) (as := [vI (sShs (σ 1) (l3) (l4) ((σ 1 7) % 12) : Int)]) (st := [vI l2]) 12 1 e_X12_lostBy_2.2.2.2.2.2.2.2.2.1 (kCVof m_X12_ownerBy l_X12_309) rfl (by decide) km_0 (by decide) (by decide) rfl rfl (by show (1 : Nat) ≤ 8; decide) ?_
    refine Run.mono (P_X12_ownerBy q13) (fun r s e => ?_)
    obtain ⟨e1, e2⟩ := e
    refine R_eqs (st2 := [vI (sOwnBy (σ 1) ((sShs (σ 1) (l3) (l4) ((σ 1 7) % 12) : Int))), vI l2]) (σ2 := σ) (by rw [e1]; rfl) e2 ?_
    refine R_iconst e_X12_lostBy_2.2.2.2.2.2.2.2.2.2 ?_
    obtain ⟨q14, h⟩ := h
    refine R_icmp_eq 72 e_X12_lostBy_3.1 (by decide) q14 (by decide) (fun q => ?_) (fun q => ?_)
    · replace h := h.1 q
      refine R_iconst e_X12_lostBy_4.2.2.2.2.1 ?_
      refine R_iadd e_X12_lostBy_4.2.2.2.2.2.1 ?_
      refine R_istore_n (ls2 := [(2, vI (l2 + 0)), (5, vI (sShs (σ 1) (l3) (l4) ((σ 1 7) % 12) : Int)), (0, vA G 0), (1, vI l1), (3, vI l3), (4, vI l4)]) e_X12_lostBy_4.2.2.2.2.2.2.1 (by decide) rfl ?_
      refine R_iinc (ls2 := [(4, vI (l4 + 1)), (2, vI (l2 + 0)), (5, vI (sShs (σ 1) (l3) (l4) ((σ 1 7) % 12) : Int)), (0, vA G 0), (1, vI l1), (3, vI l3)]) e_X12_lostBy_4.2.2.2.2.2.2.2.1 5 rfl (by decide) rfl ?_
      refine R_goto 17 e_X12_lostBy_4.2.2.2.2.2.2.2.2.1 (by decide) ?_
      refine R_ls (ls2 := [(0, vA G 0), (1, vI l1), (2, vI (l2 + 0)), (3, vI l3), (4, vI (l4 + 1))]) [3, 4, 1, 5, 0] rfl ?_
      exact h
    · replace h := h.2 q
      refine R_aload_n e_X12_lostBy_3.2.1 1 rfl ?_
      refine R_iload e_X12_lostBy_3.2.2.1 0 rfl ?_
      refine R_iconst e_X12_lostBy_3.2.2.2.1 ?_
      refine R_iload_n e_X12_lostBy_3.2.2.2.2.1 2 rfl ?_
      refine R_ishl e_X12_lostBy_3.2.2.2.2.2.1 ?_
      refine R_iconst e_X12_lostBy_3.2.2.2.2.2.2.1 ?_
      refine R_ixor e_X12_lostBy_3.2.2.2.2.2.2.2.1 ?_
      refine R_iand e_X12_lostBy_3.2.2.2.2.2.2.2.2.1 ?_
      obtain ⟨q17, h⟩ := h
      refine R_callV (mc := 0) (ms := 0) (mc' := 0) (ms' := 0) (M' := M_X12_ownerBy) (d' := 2) (as := [vI (kand (sShs (σ 1) (l3) (l4) ((σ 1 7) % 12) : Int) (kxor (kshl 1 l1) (-1)))]) (st := [vI l2]) 12 1 e_X12_lostBy_3.2.2.2.2.2.2.2.2.2 (kCVof m_X12_ownerBy l_X12_309) rfl (by decide) km_0 (by decide) (by decide) rfl rfl (by show (1 : Nat) ≤ 8; decide) ?_
      refine Run.mono (P_X12_ownerBy q17) (fun r s e => ?_)
      obtain ⟨e1, e2⟩ := e
      refine R_eqs (st2 := [vI (sOwnBy (σ 1) (kand (sShs (σ 1) (l3) (l4) ((σ 1 7) % 12) : Int) (kxor (kshl 1 l1) (-1)))), vI l2]) (σ2 := σ) (by rw [e1]; rfl) e2 ?_
      refine R_iconst e_X12_lostBy_4.1 ?_
      obtain ⟨q18, h⟩ := h
      refine R_icmp_ne 72 e_X12_lostBy_4.2.1 (by decide) q18 (by decide) (fun q => ?_) (fun q => ?_)
      · replace h := h.1 q
        refine R_iconst e_X12_lostBy_4.2.2.2.2.1 ?_
        refine R_iadd e_X12_lostBy_4.2.2.2.2.2.1 ?_
        refine R_istore_n (ls2 := [(2, vI (l2 + 0)), (5, vI (sShs (σ 1) (l3) (l4) ((σ 1 7) % 12) : Int)), (0, vA G 0), (1, vI l1), (3, vI l3), (4, vI l4)]) e_X12_lostBy_4.2.2.2.2.2.2.1 (by decide) rfl ?_
        refine R_iinc (ls2 := [(4, vI (l4 + 1)), (2, vI (l2 + 0)), (5, vI (sShs (σ 1) (l3) (l4) ((σ 1 7) % 12) : Int)), (0, vA G 0), (1, vI l1), (3, vI l3)]) e_X12_lostBy_4.2.2.2.2.2.2.2.1 5 rfl (by decide) rfl ?_
        refine R_goto 17 e_X12_lostBy_4.2.2.2.2.2.2.2.2.1 (by decide) ?_
        refine R_ls (ls2 := [(0, vA G 0), (1, vI l1), (2, vI (l2 + 0)), (3, vI l3), (4, vI (l4 + 1))]) [3, 4, 1, 5, 0] rfl ?_
        exact h
      · replace h := h.2 q
        refine R_iconst e_X12_lostBy_4.2.2.1 ?_
        refine R_goto 73 e_X12_lostBy_4.2.2.2.1 (by decide) ?_
        refine R_iadd e_X12_lostBy_4.2.2.2.2.2.1 ?_
        refine R_istore_n (ls2 := [(2, vI (l2 + 1)), (5, vI (sShs (σ 1) (l3) (l4) ((σ 1 7) % 12) : Int)), (0, vA G 0), (1, vI l1), (3, vI l3), (4, vI l4)]) e_X12_lostBy_4.2.2.2.2.2.2.1 (by decide) rfl ?_
        refine R_iinc (ls2 := [(4, vI (l4 + 1)), (2, vI (l2 + 1)), (5, vI (sShs (σ 1) (l3) (l4) ((σ 1 7) % 12) : Int)), (0, vA G 0), (1, vI l1), (3, vI l3)]) e_X12_lostBy_4.2.2.2.2.2.2.2.1 5 rfl (by decide) rfl ?_
        refine R_goto 17 e_X12_lostBy_4.2.2.2.2.2.2.2.2.1 (by decide) ?_
        refine R_ls (ls2 := [(0, vA G 0), (1, vI l1), (2, vI (l2 + 1)), (3, vI l3), (4, vI (l4 + 1))]) [3, 4, 1, 5, 0] rfl ?_
        exact h
