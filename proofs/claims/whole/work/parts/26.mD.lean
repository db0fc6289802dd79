/-! KiteLandModel.shadersOf(III)I -/
theorem e_X12_shadersOf_0 : decode cX12_shadersOf 0 = .ok (.iconst 0, 1) ∧ decode cX12_shadersOf 1 = .ok (.istore 4, 2) ∧ decode cX12_shadersOf 3 = .ok (.iconst 0, 1) ∧ decode cX12_shadersOf 4 = .ok (.istore 5, 2) ∧ decode cX12_shadersOf 6 = .ok (.iload 5, 2) ∧ decode cX12_shadersOf 8 = .ok (.aload_n 0, 1) ∧ decode cX12_shadersOf 9 = .ok (.getfield 7, 3) ∧ decode cX12_shadersOf 12 = .ok (.iconst 2, 1) ∧ decode cX12_shadersOf 13 = .ok (.iaload, 1) ∧ decode cX12_shadersOf 14 = .ok (.if_icmp .ge 43, 3) := by decide +kernel
theorem e_X12_shadersOf_1 : decode cX12_shadersOf 17 = .ok (.iload 4, 2) ∧ decode cX12_shadersOf 19 = .ok (.aload_n 0, 1) ∧ decode cX12_shadersOf 20 = .ok (.iload 5, 2) ∧ decode cX12_shadersOf 22 = .ok (.invokevirtual 271, 3) ∧ decode cX12_shadersOf 25 = .ok (.ifCond .ne 22, 3) ∧ decode cX12_shadersOf 28 = .ok (.aload_n 0, 1) ∧ decode cX12_shadersOf 29 = .ok (.iload 5, 2) ∧ decode cX12_shadersOf 31 = .ok (.iload_n 1, 1) ∧ decode cX12_shadersOf 32 = .ok (.iload_n 2, 1) ∧ decode cX12_shadersOf 33 = .ok (.iload_n 3, 1) := by decide +kernel
theorem e_X12_shadersOf_2 : decode cX12_shadersOf 34 = .ok (.invokevirtual 295, 3) ∧ decode cX12_shadersOf 37 = .ok (.ifCond .eq 10, 3) ∧ decode cX12_shadersOf 40 = .ok (.iconst 1, 1) ∧ decode cX12_shadersOf 41 = .ok (.iload 5, 2) ∧ decode cX12_shadersOf 43 = .ok (.ishl, 1) ∧ decode cX12_shadersOf 44 = .ok (.goto 4, 3) ∧ decode cX12_shadersOf 47 = .ok (.iconst 0, 1) ∧ decode cX12_shadersOf 48 = .ok (.ior, 1) ∧ decode cX12_shadersOf 49 = .ok (.istore 4, 2) ∧ decode cX12_shadersOf 51 = .ok (.iinc 5 1, 3) := by decide +kernel
theorem e_X12_shadersOf_3 : decode cX12_shadersOf 54 = .ok (.goto (-48), 3) ∧ decode cX12_shadersOf 57 = .ok (.iload 4, 2) ∧ decode cX12_shadersOf 59 = .ok (.ireturn, 1) := by decide +kernel
abbrev E_X12_shadersOf_6 (G : Kg) (l1 l2 l3 l4 l5 : Int) (σ : Kmem) (Q : Int → Kmem → Prop) : Prop := Ex G WM M_X12_shadersOf 5 0 0 6 [(0, vA G 0), (1, vI l1), (2, vI l2), (3, vI l3), (4, vI l4), (5, vI l5)] [] σ Q
theorem S_X12_shadersOf {G : Kg} {σ : Kmem} {Q : Int → Kmem → Prop} {l1 l2 l3 : Int}  (h : E_X12_shadersOf_6 G l1 l2 l3 0 0 σ Q) : Run G WM M_X12_shadersOf 5 0 0 [vA G 0, vI l1, vI l2, vI l3] σ Q := by
  refine Run.of (by decide +kernel) (by show (4 : Nat) ≤ 6; decide) ?_
  show Ex G WM M_X12_shadersOf 5 0 0 0 [(0, vA G 0), (1, vI l1), (2, vI l2), (3, vI l3)] [] σ Q
  refine R_iconst e_X12_shadersOf_0.1 ?_
  refine R_istore (ls2 := [(4, vI 0), (0, vA G 0), (1, vI l1), (2, vI l2), (3, vI l3)]) e_X12_shadersOf_0.2.1 (by decide) rfl ?_
  refine R_iconst e_X12_shadersOf_0.2.2.1 ?_
  refine R_istore (ls2 := [(5, vI 0), (4, vI 0), (0, vA G 0), (1, vI l1), (2, vI l2), (3, vI l3)]) e_X12_shadersOf_0.2.2.2.1 (by decide) rfl ?_
  refine R_ls (ls2 := [(0, vA G 0), (1, vI l1), (2, vI l2), (3, vI l3), (4, vI 0), (5, vI 0)]) [2, 3, 4, 5, 1, 0] rfl ?_
  exact h
theorem S_X12_shadersOf_6 {G : Kg} {σ : Kmem} {Q : Int → Kmem → Prop} {l1 l2 l3 l4 l5 : Int}  (h : (rI l5) ∧ (rI (σ 1 2)) ∧ ((σ 1 2 ≤ l5 → Q l4 σ) ∧ (l5 < σ 1 2 → (wf (σ 1) ∧ sKt (σ 1) (l5)) ∧ ((((σ 1) (34 + 9 * (l5) + 8) = 1) → E_X12_shadersOf_6 G l1 l2 l3 (kor l4 0) (l5 + 1) σ Q) ∧ (¬ ((σ 1) (34 + 9 * (l5) + 8) = 1) → (wf (σ 1) ∧ sKt (σ 1) (l5) ∧ sHr (l3) ∧ ((0 : Int) ≤ l1 ∧ (l1 : Int) ≤ 100) ∧ (0 : Int) ≤ l2 ∧ (l2 : Int) ≤ 100) ∧ ((¬ (sShd (σ 1) (l5) (l1) (l2) (l3)) → E_X12_shadersOf_6 G l1 l2 l3 (kor l4 0) (l5 + 1) σ Q) ∧ ((sShd (σ 1) (l5) (l1) (l2) (l3)) → E_X12_shadersOf_6 G l1 l2 l3 (kor l4 (kshl 1 l5)) (l5 + 1) σ Q))))))) : E_X12_shadersOf_6 G l1 l2 l3 l4 l5 σ Q := by
  refine R_iload e_X12_shadersOf_0.2.2.2.2.1 5 rfl ?_
  refine R_aload_n e_X12_shadersOf_0.2.2.2.2.2.1 0 rfl ?_
  refine R_getA 12 0 1 e_X12_shadersOf_0.2.2.2.2.2.2.1 f_X12_7 km_0 (fun _ _ => rfl) rm_0_0 (by decide) ?_
  refine R_iconst e_X12_shadersOf_0.2.2.2.2.2.2.2.1 ?_
  refine R_iald 3598 e_X12_shadersOf_0.2.2.2.2.2.2.2.2.1 kma_1 (by decide) ?_
  obtain ⟨q1, h⟩ := h
  obtain ⟨q2, h⟩ := h
  refine R_icmp_ge 57 e_X12_shadersOf_0.2.2.2.2.2.2.2.2.2 (by decide) q1 q2 (fun q => ?_) (fun q => ?_)
  · replace h := h.1 q
    refine R_iload e_X12_shadersOf_3.2.1 4 rfl ?_
    exact R_ireturn e_X12_shadersOf_3.2.2 rfl h
  · replace h := h.2 q
    refine R_iload e_X12_shadersOf_1.1 4 rfl ?_
    refine R_aload_n e_X12_shadersOf_1.2.1 0 rfl ?_
    refine R_iload e_X12_shadersOf_1.2.2.1 5 rfl ?_
    obtain ⟨q5, h⟩ := h
    refine R_callV (mc := 0) (ms := 0) (mc' := 0) (ms' := 0) (M' := M_X12_isCut) (d' := 2) (as := [vI l5]) (st := [vI l4]) 12 1 e_X12_shadersOf_1.2.2.2.1 (kCVof m_X12_isCut l_X12_271) rfl (by decide) km_0 (by decide) (by decide) rfl rfl (by show (1 : Nat) ≤ 8; decide) ?_
    refine Run.mono (P_X12_isCut q5) (fun r s e => ?_)
    obtain ⟨e1, e2⟩ := e
    refine R_eqs (st2 := [vI (kb ((σ 1) (34 + 9 * (l5) + 8) = 1)), vI l4]) (σ2 := σ) (by rw [e1]; rfl) e2 ?_
    refine R_if_ne 47 e_X12_shadersOf_1.2.2.2.2.1 (by decide) (kb_r _) (fun q => ?_) (fun q => ?_)
    · replace h := h.1 (kb_t q)
      refine R_iconst e_X12_shadersOf_2.2.2.2.2.2.2.1 ?_
      refine R_ior e_X12_shadersOf_2.2.2.2.2.2.2.2.1 ?_
      refine R_istore (ls2 := [(4, vI (kor l4 0)), (0, vA G 0), (1, vI l1), (2, vI l2), (3, vI l3), (5, vI l5)]) e_X12_shadersOf_2.2.2.2.2.2.2.2.2.1 (by decide) rfl ?_
      refine R_iinc (ls2 := [(5, vI (l5 + 1)), (4, vI (kor l4 0)), (0, vA G 0), (1, vI l1), (2, vI l2), (3, vI l3)]) e_X12_shadersOf_2.2.2.2.2.2.2.2.2.2 5 rfl (by decide) rfl ?_
      refine R_goto 6 e_X12_shadersOf_3.1 (by decide) ?_
      refine R_ls (ls2 := [(0, vA G 0), (1, vI l1), (2, vI l2), (3, vI l3), (4, vI (kor l4 0)), (5, vI (l5 + 1))]) [2, 3, 4, 5, 1, 0] rfl ?_
      exact h
    · replace h := h.2 (kb_f q)
      refine R_aload_n e_X12_shadersOf_1.2.2.2.2.2.1 0 rfl ?_
      refine R_iload e_X12_shadersOf_1.2.2.2.2.2.2.1 5 rfl ?_
      refine R_iload_n e_X12_shadersOf_1.2.2.2.2.2.2.2.1 1 rfl ?_
      refine R_iload_n e_X12_shadersOf_1.2.2.2.2.2.2.2.2.1 2 rfl ?_
      refine R_iload_n e_X12_shadersOf_1.2.2.2.2.2.2.2.2.2 3 rfl ?_
      obtain ⟨q8, h⟩ := h
      refine R_callV (mc := 0) (ms := 0) (mc' := 0) (ms' := 0) (M' := M_X12_doesShade) (d' := 4) (as := [vI l5, vI l1, vI l2, vI l3]) (st := [vI l4]) 12 4 e_X12_shadersOf_2.1 (kCVof m_X12_doesShade l_X12_295) rfl (by decide) km_0 (by decide) (by decide) rfl rfl (by show (1 : Nat) ≤ 8; decide) ?_
      refine Run.mono (P_X12_doesShade q8) (fun r s e => ?_)
      obtain ⟨e1, e2⟩ := e
      refine R_eqs (st2 := [vI (kb (sShd (σ 1) (l5) (l1) (l2) (l3))), vI l4]) (σ2 := σ) (by rw [e1]; rfl) e2 ?_
      refine R_if_eq 47 e_X12_shadersOf_2.2.1 (by decide) (kb_r _) (fun q => ?_) (fun q => ?_)
      · replace h := h.1 (kb_f q)
        refine R_iconst e_X12_shadersOf_2.2.2.2.2.2.2.1 ?_
        refine R_ior e_X12_shadersOf_2.2.2.2.2.2.2.2.1 ?_
        refine R_istore (ls2 := [(4, vI (kor l4 0)), (0, vA G 0), (1, vI l1), (2, vI l2), (3, vI l3), (5, vI l5)]) e_X12_shadersOf_2.2.2.2.2.2.2.2.2.1 (by decide) rfl ?_
        refine R_iinc (ls2 := [(5, vI (l5 + 1)), (4, vI (kor l4 0)), (0, vA G 0), (1, vI l1), (2, vI l2), (3, vI l3)]) e_X12_shadersOf_2.2.2.2.2.2.2.2.2.2 5 rfl (by decide) rfl ?_
        refine R_goto 6 e_X12_shadersOf_3.1 (by decide) ?_
        refine R_ls (ls2 := [(0, vA G 0), (1, vI l1), (2, vI l2), (3, vI l3), (4, vI (kor l4 0)), (5, vI (l5 + 1))]) [2, 3, 4, 5, 1, 0] rfl ?_
        exact h
      · replace h := h.2 (kb_t q)
        refine R_iconst e_X12_shadersOf_2.2.2.1 ?_
        refine R_iload e_X12_shadersOf_2.2.2.2.1 5 rfl ?_
        refine R_ishl e_X12_shadersOf_2.2.2.2.2.1 ?_
        refine R_goto 48 e_X12_shadersOf_2.2.2.2.2.2.1 (by decide) ?_
        refine R_ior e_X12_shadersOf_2.2.2.2.2.2.2.2.1 ?_
        refine R_istore (ls2 := [(4, vI (kor l4 (kshl 1 l5))), (0, vA G 0), (1, vI l1), (2, vI l2), (3, vI l3), (5, vI l5)]) e_X12_shadersOf_2.2.2.2.2.2.2.2.2.1 (by decide) rfl ?_
        refine R_iinc (ls2 := [(5, vI (l5 + 1)), (4, vI (kor l4 (kshl 1 l5))), (0, vA G 0), (1, vI l1), (2, vI l2), (3, vI l3)]) e_X12_shadersOf_2.2.2.2.2.2.2.2.2.2 5 rfl (by decide) rfl ?_
        refine R_goto 6 e_X12_shadersOf_3.1 (by decide) ?_
        refine R_ls (ls2 := [(0, vA G 0), (1, vI l1), (2, vI l2), (3, vI l3), (4, vI (kor l4 (kshl 1 l5))), (5, vI (l5 + 1))]) [2, 3, 4, 5, 1, 0] rfl ?_
        exact h
/-! KiteLandModel.ownerBy(I)I -/
theorem e_X12_ownerBy_0 : decode cX12_ownerBy 0 = .ok (.iconst (-1), 1) ∧ decode cX12_ownerBy 1 = .ok (.istore_n 2, 1) ∧ decode cX12_ownerBy 2 = .ok (.iconst 0, 1) ∧ decode cX12_ownerBy 3 = .ok (.istore_n 3, 1) ∧ decode cX12_ownerBy 4 = .ok (.iload_n 3, 1) ∧ decode cX12_ownerBy 5 = .ok (.aload_n 0, 1) ∧ decode cX12_ownerBy 6 = .ok (.getfield 7, 3) ∧ decode cX12_ownerBy 9 = .ok (.iconst 2, 1) ∧ decode cX12_ownerBy 10 = .ok (.iaload, 1) ∧ decode cX12_ownerBy 11 = .ok (.if_icmp .ge 51, 3) := by decide +kernel
theorem e_X12_ownerBy_1 : decode cX12_ownerBy 14 = .ok (.aload_n 0, 1) ∧ decode cX12_ownerBy 15 = .ok (.iload_n 1, 1) ∧ decode cX12_ownerBy 16 = .ok (.iload_n 3, 1) ∧ decode cX12_ownerBy 17 = .ok (.invokevirtual 299, 3) ∧ decode cX12_ownerBy 20 = .ok (.ifCond .eq 36, 3) ∧ decode cX12_ownerBy 23 = .ok (.iload_n 2, 1) ∧ decode cX12_ownerBy 24 = .ok (.iconst (-1), 1) ∧ decode cX12_ownerBy 25 = .ok (.if_icmp .eq 29, 3) ∧ decode cX12_ownerBy 28 = .ok (.aload_n 0, 1) ∧ decode cX12_ownerBy 29 = .ok (.getfield 7, 3) := by decide +kernel
theorem e_X12_ownerBy_2 : decode cX12_ownerBy 32 = .ok (.bipush 6, 2) ∧ decode cX12_ownerBy 34 = .ok (.iaload, 1) ∧ decode cX12_ownerBy 35 = .ok (.iconst 1, 1) ∧ decode cX12_ownerBy 36 = .ok (.if_icmp .ne 20, 3) ∧ decode cX12_ownerBy 39 = .ok (.aload_n 0, 1) ∧ decode cX12_ownerBy 40 = .ok (.iload_n 3, 1) ∧ decode cX12_ownerBy 41 = .ok (.iconst 2, 1) ∧ decode cX12_ownerBy 42 = .ok (.invokevirtual 268, 3) ∧ decode cX12_ownerBy 45 = .ok (.aload_n 0, 1) ∧ decode cX12_ownerBy 46 = .ok (.iload_n 2, 1) := by decide +kernel
theorem e_X12_ownerBy_3 : decode cX12_ownerBy 47 = .ok (.iconst 2, 1) ∧ decode cX12_ownerBy 48 = .ok (.invokevirtual 268, 3) ∧ decode cX12_ownerBy 51 = .ok (.if_icmp .le 5, 3) ∧ decode cX12_ownerBy 54 = .ok (.iload_n 3, 1) ∧ decode cX12_ownerBy 55 = .ok (.istore_n 2, 1) ∧ decode cX12_ownerBy 56 = .ok (.iinc 3 1, 3) ∧ decode cX12_ownerBy 59 = .ok (.goto (-55), 3) ∧ decode cX12_ownerBy 62 = .ok (.aload_n 0, 1) ∧ decode cX12_ownerBy 63 = .ok (.getfield 7, 3) ∧ decode cX12_ownerBy 66 = .ok (.bipush 6, 2) := by decide +kernel
theorem e_X12_ownerBy_4 : decode cX12_ownerBy 68 = .ok (.iaload, 1) ∧ decode cX12_ownerBy 69 = .ok (.iconst 2, 1) ∧ decode cX12_ownerBy 70 = .ok (.if_icmp .ne 15, 3) ∧ decode cX12_ownerBy 73 = .ok (.iload_n 1, 1) ∧ decode cX12_ownerBy 74 = .ok (.invokestatic 302, 3) ∧ decode cX12_ownerBy 77 = .ok (.iconst 1, 1) ∧ decode cX12_ownerBy 78 = .ok (.if_icmp .eq 7, 3) ∧ decode cX12_ownerBy 81 = .ok (.iconst (-1), 1) ∧ decode cX12_ownerBy 82 = .ok (.goto 4, 3) ∧ decode cX12_ownerBy 85 = .ok (.iload_n 2, 1) := by decide +kernel
theorem e_X12_ownerBy_5 : decode cX12_ownerBy 86 = .ok (.ireturn, 1) := by decide +kernel
abbrev E_X12_ownerBy_4 (G : Kg) (l1 l2 l3 : Int) (σ : Kmem) (Q : Int → Kmem → Prop) : Prop := Ex G WM M_X12_ownerBy 2 0 0 4 [(0, vA G 0), (1, vI l1), (2, vI l2), (3, vI l3)] [] σ Q
theorem S_X12_ownerBy {G : Kg} {σ : Kmem} {Q : Int → Kmem → Prop} {l1 : Int}  (h : E_X12_ownerBy_4 G l1 (-1) 0 σ Q) : Run G WM M_X12_ownerBy 2 0 0 [vA G 0, vI l1] σ Q := by
  refine Run.of (by decide +kernel) (by show (2 : Nat) ≤ 4; decide) ?_
  show Ex G WM M_X12_ownerBy 2 0 0 0 [(0, vA G 0), (1, vI l1)] [] σ Q
  refine R_iconst e_X12_ownerBy_0.1 ?_
  refine R_istore_n (ls2 := [(2, vI (-1)), (0, vA G 0), (1, vI l1)]) e_X12_ownerBy_0.2.1 (by decide) rfl ?_
  refine R_iconst e_X12_ownerBy_0.2.2.1 ?_
  refine R_istore_n (ls2 := [(3, vI 0), (2, vI (-1)), (0, vA G 0), (1, vI l1)]) e_X12_ownerBy_0.2.2.2.1 (by decide) rfl ?_
  refine R_ls (ls2 := [(0, vA G 0), (1, vI l1), (2, vI (-1)), (3, vI 0)]) [2, 3, 1, 0] rfl ?_
  exact h
theorem S_X12_ownerBy_4 {G : Kg} {σ : Kmem} {Q : Int → Kmem → Prop} {l1 l2 l3 : Int}  (h : (rI l3) ∧ (rI (σ 1 2)) ∧ ((σ 1 2 ≤ l3 → (rI (σ 1 6)) ∧ ((σ 1 6 ≠ 2 → Q l2 σ) ∧ (σ 1 6 = 2 → Run G WM M_X12_bits 0 0 0 [vI l1] σ (fun r4 s5 => (rI r4) ∧ ((r4 = 1 → Q l2 s5) ∧ (r4 ≠ 1 → Q (-1) s5)))))) ∧ (l3 < σ 1 2 → (((0 : Int) ≤ l1 ∧ (l1 : Int) < 65536) ∧ (0 : Int) ≤ l3 ∧ (l3 : Int) < 31) ∧ ((¬ (sIn (l1) (l3)) → E_X12_ownerBy_4 G l1 l2 (l3 + 1) σ Q) ∧ ((sIn (l1) (l3)) → (rI l2) ∧ ((l2 = -1 → E_X12_ownerBy_4 G l1 l3 (l3 + 1) σ Q) ∧ (l2 ≠ -1 → (rI (σ 1 6)) ∧ ((σ 1 6 ≠ 1 → E_X12_ownerBy_4 G l1 l2 (l3 + 1) σ Q) ∧ (σ 1 6 = 1 → (0 ≤ (34 + (9 * l3)) + 2 ∧ (34 + (9 * l3)) + 2 < 3598) ∧ (0 ≤ (34 + (9 * l2)) + 2 ∧ (34 + (9 * l2)) + 2 < 3598) ∧ (rI (σ 1 ((34 + (9 * l3)) + 2))) ∧ (rI (σ 1 ((34 + (9 * l2)) + 2))) ∧ ((σ 1 ((34 + (9 * l3)) + 2) ≤ σ 1 ((34 + (9 * l2)) + 2) → E_X12_ownerBy_4 G l1 l2 (l3 + 1) σ Q) ∧ (σ 1 ((34 + (9 * l2)) + 2) < σ 1 ((34 + (9 * l3)) + 2) → E_X12_ownerBy_4 G l1 l3 (l3 + 1) σ Q))))))))))) : E_X12_ownerBy_4 G l1 l2 l3 σ Q := by
  refine R_iload_n e_X12_ownerBy_0.2.2.2.2.1 3 rfl ?_
  refine R_aload_n e_X12_ownerBy_0.2.2.2.2.2.1 0 rfl ?_
  refine R_getA 12 0 1 e_X12_ownerBy_0.2.2.2.2.2.2.1 f_X12_7 km_0 (fun _ _ => rfl) rm_0_0 (by decide) ?_
  refine R_iconst e_X12_ownerBy_0.2.2.2.2.2.2.2.1 ?_
  refine R_iald 3598 e_X12_ownerBy_0.2.2.2.2.2.2.2.2.1 kma_1 (by decide) ?_
  obtain ⟨q1, h⟩ := h
  obtain ⟨q2, h⟩ := h
  refine R_icmp_ge 62 e_X12_ownerBy_0.2.2.2.2.2.2.2.2.2 (by decide) q1 q2 (fun q => ?_) (fun q => ?_)
  · replace h := h.1 q
    refine R_aload_n e_X12_ownerBy_3.2.2.2.2.2.2.2.1 0 rfl ?_
    refine R_getA 12 0 1 e_X12_ownerBy_3.2.2.2.2.2.2.2.2.1 f_X12_7 km_0 (fun _ _ => rfl) rm_0_0 (by decide) ?_
    refine R_bipush e_X12_ownerBy_3.2.2.2.2.2.2.2.2.2 (by decide) ?_
    refine R_iald 3598 e_X12_ownerBy_4.1 kma_1 (by decide) ?_
    refine R_iconst e_X12_ownerBy_4.2.1 ?_
    obtain ⟨q3, h⟩ := h
    refine R_icmp_ne 85 e_X12_ownerBy_4.2.2.1 (by decide) q3 (by decide) (fun q => ?_) (fun q => ?_)
    · replace h := h.1 q
      refine R_iload_n e_X12_ownerBy_4.2.2.2.2.2.2.2.2.2 2 rfl ?_
      exact R_ireturn e_X12_ownerBy_5 rfl h
    · replace h := h.2 q
      refine R_iload_n e_X12_ownerBy_4.2.2.2.1 1 rfl ?_
      refine R_callS (mc := 0) (ms := 0) (mc' := 0) (ms' := 0) (M' := M_X12_bits) (d' := 0) (as := [vI l1]) (st := []) 1 e_X12_ownerBy_4.2.2.2.2.1 (kCSof m_X12_bits l_X12_302) (by decide) (by decide) rfl rfl (by show (0 : Nat) ≤ 8; decide) ?_
      refine Run.mono h (fun r4 s5 h => ?_)
      refine R_eqs (st2 := [vI r4]) rfl rfl ?_
      refine R_iconst e_X12_ownerBy_4.2.2.2.2.2.1 ?_
      obtain ⟨q6, h⟩ := h
      refine R_icmp_eq 85 e_X12_ownerBy_4.2.2.2.2.2.2.1 (by decide) q6 (by decide) (fun q => ?_) (fun q => ?_)
      · replace h := h.1 q
        refine R_iload_n e_X12_ownerBy_4.2.2.2.2.2.2.2.2.2 2 rfl ?_
        exact R_ireturn e_X12_ownerBy_5 rfl h
      · replace h := h.2 q
        refine R_iconst e_X12_ownerBy_4.2.2.2.2.2.2.2.1 ?_
        refine R_goto 86 e_X12_ownerBy_4.2.2.2.2.2.2.2.2.1 (by decide) ?_
        exact R_ireturn e_X12_ownerBy_5 rfl h
  · replace h := h.2 q
    refine R_aload_n e_X12_ownerBy_1.1 0 rfl ?_
    refine R_iload_n e_X12_ownerBy_1.2.1 1 rfl ?_
    refine R_iload_n e_X12_ownerBy_1.2.2.1 3 rfl ?_
    obtain ⟨q9, h⟩ := h
    refine R_callV (mc := 0) (ms := 0) (mc' := 0) (ms' := 0) (M' := M_X12_isIn) (d' := 0) (as := [vI l1, vI l3]) (st := []) 12 2 e_X12_ownerBy_1.2.2.2.1 (kCVof m_X12_isIn l_X12_299) rfl (by decide) km_0 (by decide) (by decide) rfl rfl (by show (0 : Nat) ≤ 8; decide) ?_
    refine Run.mono (P_X12_isIn q9) (fun r s e => ?_)
    obtain ⟨e1, e2⟩ := e
    refine R_eqs (st2 := [vI (kb (sIn (l1) (l3)))]) (σ2 := σ) (by rw [e1]; rfl) e2 ?_
    refine R_if_eq 56 e_X12_ownerBy_1.2.2.2.2.1 (by decide) (kb_r _) (fun q => ?_) (fun q => ?_)
    · replace h := h.1 (kb_f q)
      refine R_iinc (ls2 := [(3, vI (l3 + 1)), (0, vA G 0), (1, vI l1), (2, vI l2)]) e_X12_ownerBy_3.2.2.2.2.2.1 3 rfl (by decide) rfl ?_
      refine R_goto 4 e_X12_ownerBy_3.2.2.2.2.2.2.1 (by decide) ?_
      refine R_ls (ls2 := [(0, vA G 0), (1, vI l1), (2, vI l2), (3, vI (l3 + 1))]) [1, 2, 3, 0] rfl ?_
      exact h
    · replace h := h.2 (kb_t q)
      refine R_iload_n e_X12_ownerBy_1.2.2.2.2.2.1 2 rfl ?_
      refine R_iconst e_X12_ownerBy_1.2.2.2.2.2.2.1 ?_
      obtain ⟨q10, h⟩ := h
      refine R_icmp_eq 54 e_X12_ownerBy_1.2.2.2.2.2.2.2.1 (by decide) q10 (by decide) (fun q => ?_) (fun q => ?_)
      · replace h := h.1 q
        refine R_iload_n e_X12_ownerBy_3.2.2.2.1 3 rfl ?_
        refine R_istore_n (ls2 := [(2, vI l3), (0, vA G 0), (1, vI l1), (3, vI l3)]) e_X12_ownerBy_3.2.2.2.2.1 (by decide) rfl ?_
        refine R_iinc (ls2 := [(3, vI (l3 + 1)), (2, vI l3), (0, vA G 0), (1, vI l1)]) e_X12_ownerBy_3.2.2.2.2.2.1 3 rfl (by decide) rfl ?_
        refine R_goto 4 e_X12_ownerBy_3.2.2.2.2.2.2.1 (by decide) ?_
        refine R_ls (ls2 := [(0, vA G 0), (1, vI l1), (2, vI l3), (3, vI (l3 + 1))]) [2, 3, 1, 0] rfl ?_
        exact h
      · replace h := h.2 q
        refine R_aload_n e_X12_ownerBy_1.2.2.2.2.2.2.2.2.1 0 rfl ?_
        refine R_getA 12 0 1 e_X12_ownerBy_1.2.2.2.2.2.2.2.2.2 f_X12_7 km_0 (fun _ _ => rfl) rm_0_0 (by decide) ?_
        refine R_bipush e_X12_ownerBy_2.1 (by decide) ?_
        refine R_iald 3598 e_X12_ownerBy_2.2.1 kma_1 (by decide) ?_
        refine R_iconst e_X12_ownerBy_2.2.2.1 ?_
        obtain ⟨q11, h⟩ := h
        refine R_icmp_ne 56 e_X12_ownerBy_2.2.2.2.1 (by decide) q11 (by decide) (fun q => ?_) (fun q => ?_)
        · replace h := h.1 q
          refine R_iinc (ls2 := [(3, vI (l3 + 1)), (0, vA G 0), (1, vI l1), (2, vI l2)]) e_X12_ownerBy_3.2.2.2.2.2.1 3 rfl (by decide) rfl ?_
          refine R_goto 4 e_X12_ownerBy_3.2.2.2.2.2.2.1 (by decide) ?_
          refine R_ls (ls2 := [(0, vA G 0), (1, vI l1), (2, vI l2), (3, vI (l3 + 1))]) [1, 2, 3, 0] rfl ?_
          exact h
        · replace h := h.2 q
          refine R_aload_n e_X12_ownerBy_2.2.2.2.2.1 0 rfl ?_
          refine R_iload_n e_X12_ownerBy_2.2.2.2.2.2.1 3 rfl ?_
          refine R_iconst e_X12_ownerBy_2.2.2.2.2.2.2.1 ?_
          refine R_callV (mc := 0) (ms := 0) (mc' := 0) (ms' := 0) (M' := M_X12_of) (d' := 1) (as := [vI l3, vI 2]) (st := []) 12 2 e_X12_ownerBy_2.2.2.2.2.2.2.2.1 (kCVof m_X12_of l_X12_268) rfl (by decide) km_0 (by decide) (by decide) rfl rfl (by show (0 : Nat) ≤ 8; decide) ?_
          obtain ⟨q16, h⟩ := h
          refine S_X12_of ⟨q16, ?_⟩
          refine R_eqs (st2 := [vI (σ 1 ((34 + (9 * l3)) + 2))]) (σ2 := σ) rfl rfl ?_
          refine R_aload_n e_X12_ownerBy_2.2.2.2.2.2.2.2.2.1 0 rfl ?_
          refine R_iload_n e_X12_ownerBy_2.2.2.2.2.2.2.2.2.2 2 rfl ?_
          refine R_iconst e_X12_ownerBy_3.1 ?_
          refine R_callV (mc := 0) (ms := 0) (mc' := 0) (ms' := 0) (M' := M_X12_of) (d' := 1) (as := [vI l2, vI 2]) (st := [vI (σ 1 ((34 + (9 * l3)) + 2))]) 12 2 e_X12_ownerBy_3.2.1 (kCVof m_X12_of l_X12_268) rfl (by decide) km_0 (by decide) (by decide) rfl rfl (by show (1 : Nat) ≤ 8; decide) ?_
          obtain ⟨q21, h⟩ := h
          refine S_X12_of ⟨q21, ?_⟩
          refine R_eqs (st2 := [vI (σ 1 ((34 + (9 * l2)) + 2)), vI (σ 1 ((34 + (9 * l3)) + 2))]) (σ2 := σ) rfl rfl ?_
          obtain ⟨q22, h⟩ := h
          obtain ⟨q23, h⟩ := h
          refine R_icmp_le 56 e_X12_ownerBy_3.2.2.1 (by decide) q22 q23 (fun q => ?_) (fun q => ?_)
          · replace h := h.1 q
            refine R_iinc (ls2 := [(3, vI (l3 + 1)), (0, vA G 0), (1, vI l1), (2, vI l2)]) e_X12_ownerBy_3.2.2.2.2.2.1 3 rfl (by decide) rfl ?_
            refine R_goto 4 e_X12_ownerBy_3.2.2.2.2.2.2.1 (by decide) ?_
            refine R_ls (ls2 := [(0, vA G 0), (1, vI l1), (2, vI l2), (3, vI (l3 + 1))]) [1, 2, 3, 0] rfl ?_
            exact h
          · replace h := h.2 q
            refine R_iload_n e_X12_ownerBy_3.2.2.2.1 3 rfl ?_
            refine R_istore_n (ls2 := [(2, vI l3), (0, vA G 0), (1, vI l1), (3, vI l3)]) e_X12_ownerBy_3.2.2.2.2.1 (by decide) rfl ?_
            refine R_iinc (ls2 := [(3, vI (l3 + 1)), (2, vI l3), (0, vA G 0), (1, vI l1)]) e_X12_ownerBy_3.2.2.2.2.2.1 3 rfl (by decide) rfl ?_
            refine R_goto 4 e_X12_ownerBy_3.2.2.2.2.2.2.1 (by decide) ?_
            refine R_ls (ls2 := [(0, vA G 0), (1, vI l1), (2, vI l3), (3, vI (l3 + 1))]) [2, 3, 1, 0] rfl ?_
            exact h
/-! KiteLandModel.ownerOf(III)I -/
theorem e_X12_ownerOf_0 : decode cX12_ownerOf 0 = .ok (.aload_n 0, 1) ∧ decode cX12_ownerOf 1 = .ok (.aload_n 0, 1) ∧ decode cX12_ownerOf 2 = .ok (.iload_n 1, 1) ∧ decode cX12_ownerOf 3 = .ok (.iload_n 2, 1) ∧ decode cX12_ownerOf 4 = .ok (.iload_n 3, 1) ∧ decode cX12_ownerOf 5 = .ok (.invokevirtual 305, 3) ∧ decode cX12_ownerOf 8 = .ok (.invokevirtual 309, 3) ∧ decode cX12_ownerOf 11 = .ok (.ireturn, 1) := by decide +kernel
theorem S_X12_ownerOf {G : Kg} {σ : Kmem} {Q : Int → Kmem → Prop} {l1 l2 l3 : Int}  (h : Run G WM M_X12_shadersOf 5 0 0 [vA G 0, vI l1, vI l2, vI l3] σ (fun r1 s2 => Run G WM M_X12_ownerBy 2 0 0 [vA G 0, vI r1] s2 (fun r3 s4 => Q r3 s4))) : Run G WM M_X12_ownerOf 6 0 0 [vA G 0, vI l1, vI l2, vI l3] σ Q := by
  refine Run.of (by decide +kernel) (by show (4 : Nat) ≤ 4; decide) ?_
  show Ex G WM M_X12_ownerOf 6 0 0 0 [(0, vA G 0), (1, vI l1), (2, vI l2), (3, vI l3)] [] σ Q
  refine R_aload_n e_X12_ownerOf_0.1 0 rfl ?_
  refine R_aload_n e_X12_ownerOf_0.2.1 0 rfl ?_
  refine R_iload_n e_X12_ownerOf_0.2.2.1 1 rfl ?_
  refine R_iload_n e_X12_ownerOf_0.2.2.2.1 2 rfl ?_
  refine R_iload_n e_X12_ownerOf_0.2.2.2.2.1 3 rfl ?_
  refine R_callV (mc := 0) (ms := 0) (mc' := 0) (ms' := 0) (M' := M_X12_shadersOf) (d' := 5) (as := [vI l1, vI l2, vI l3]) (st := [vA G 0]) 12 3 e_X12_ownerOf_0.2.2.2.2.2.1 (kCVof m_X12_shadersOf l_X12_305) rfl (by decide) km_0 (by decide) (by decide) rfl rfl (by show (1 : Nat) ≤ 8; decide) ?_
  refine Run.mono h (fun r1 s2 h => ?_)
  refine R_eqs (st2 := [vI r1, vA G 0]) rfl rfl ?_
  refine R_callV (mc := 0) (ms := 0) (mc' := 0) (ms' := 0) (M' := M_X12_ownerBy) (d' := 2) (as := [vI r1]) (st := []) 12 1 e_X12_ownerOf_0.2.2.2.2.2.2.1 (kCVof m_X12_ownerBy l_X12_309) rfl (by decide) km_0 (by decide) (by decide) rfl rfl (by show (0 : Nat) ≤ 8; decide) ?_
  refine Run.mono h (fun r3 s4 h => ?_)
  refine R_eqs (st2 := [vI r3]) rfl rfl ?_
  exact R_ireturn e_X12_ownerOf_0.2.2.2.2.2.2.2 rfl h
/-! KiteLandModel.bits(I)I -/
theorem e_X12_bits_0 : decode cX12_bits 0 = .ok (.iconst 0, 1) ∧ decode cX12_bits 1 = .ok (.istore_n 1, 1) ∧ decode cX12_bits 2 = .ok (.iload_n 0, 1) ∧ decode cX12_bits 3 = .ok (.istore_n 2, 1) ∧ decode cX12_bits 4 = .ok (.iload_n 2, 1) ∧ decode cX12_bits 5 = .ok (.ifCond .eq 15, 3) ∧ decode cX12_bits 8 = .ok (.iinc 1 1, 3) ∧ decode cX12_bits 11 = .ok (.iload_n 2, 1) ∧ decode cX12_bits 12 = .ok (.iload_n 2, 1) ∧ decode cX12_bits 13 = .ok (.iconst 1, 1) := by decide +kernel
theorem e_X12_bits_1 : decode cX12_bits 14 = .ok (.isub, 1) ∧ decode cX12_bits 15 = .ok (.iand, 1) ∧ decode cX12_bits 16 = .ok (.istore_n 2, 1) ∧ decode cX12_bits 17 = .ok (.goto (-13), 3) ∧ decode cX12_bits 20 = .ok (.iload_n 1, 1) ∧ decode cX12_bits 21 = .ok (.ireturn, 1) := by decide +kernel
abbrev E_X12_bits_4 (G : Kg) (l1 l2 : Int) (σ : Kmem) (Q : Int → Kmem → Prop) : Prop := Ex G WM M_X12_bits 0 0 0 4 [(1, vI l1), (2, vI l2)] [] σ Q
theorem S_X12_bits {G : Kg} {σ : Kmem} {Q : Int → Kmem → Prop} {l0 : Int}  (h : E_X12_bits_4 G 0 l0 σ Q) : Run G WM M_X12_bits 0 0 0 [vI l0] σ Q := by
  refine Run.of (by decide +kernel) (by show (1 : Nat) ≤ 3; decide) ?_
  show Ex G WM M_X12_bits 0 0 0 0 [(0, vI l0)] [] σ Q
  refine R_iconst e_X12_bits_0.1 ?_
  refine R_istore_n (ls2 := [(1, vI 0), (0, vI l0)]) e_X12_bits_0.2.1 (by decide) rfl ?_
  refine R_iload_n e_X12_bits_0.2.2.1 1 rfl ?_
  refine R_istore_n (ls2 := [(2, vI l0), (1, vI 0), (0, vI l0)]) e_X12_bits_0.2.2.2.1 (by decide) rfl ?_
  refine R_ls (ls2 := [(1, vI 0), (2, vI l0)]) [1, 0] rfl ?_
  exact h
theorem S_X12_bits_4 {G : Kg} {σ : Kmem} {Q : Int → Kmem → Prop} {l0 l1 l2 : Int}  (h : (rI l2) ∧ ((l2 = 0 → Q l1 σ) ∧ (l2 ≠ 0 → E_X12_bits_4 G (l1 + 1) (kand l2 (l2 - 1)) σ Q))) : E_X12_bits_4 G l1 l2 σ Q := by
  refine R_iload_n e_X12_bits_0.2.2.2.2.1 1 rfl ?_
  obtain ⟨q1, h⟩ := h
  refine R_if_eq 20 e_X12_bits_0.2.2.2.2.2.1 (by decide) q1  (fun q => ?_) (fun q => ?_)
  · replace h := h.1 q
    refine R_iload_n e_X12_bits_1.2.2.2.2.1 0 rfl ?_
    exact R_ireturn e_X12_bits_1.2.2.2.2.2 rfl h
  · replace h := h.2 q
    refine R_iinc (ls2 := [(1, vI (l1 + 1)), (2, vI l2)]) e_X12_bits_0.2.2.2.2.2.2.1 0 rfl (by decide) rfl ?_
    refine R_iload_n e_X12_bits_0.2.2.2.2.2.2.2.1 1 rfl ?_
    refine R_iload_n e_X12_bits_0.2.2.2.2.2.2.2.2.1 1 rfl ?_
    refine R_iconst e_X12_bits_0.2.2.2.2.2.2.2.2.2 ?_
    refine R_isub e_X12_bits_1.1 ?_
    refine R_iand e_X12_bits_1.2.1 ?_
    refine R_istore_n (ls2 := [(2, vI (kand l2 (l2 - 1))), (1, vI (l1 + 1))]) e_X12_bits_1.2.2.1 (by decide) rfl ?_
    refine R_goto 4 e_X12_bits_1.2.2.2.1 (by decide) ?_
    refine R_ls (ls2 := [(1, vI (l1 + 1)), (2, vI (kand l2 (l2 - 1)))]) [1, 0] rfl ?_
    exact h
