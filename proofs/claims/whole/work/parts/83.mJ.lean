/-! KiteLandModel.four(I)V -/
theorem e_X12_four_0 : decode cX12_four 0 = .ok (.bipush 24, 2) ∧ decode cX12_four 2 = .ok (.istore_n 2, 1) ∧ decode cX12_four 3 = .ok (.iload_n 2, 1) ∧ decode cX12_four 4 = .ok (.ifCond .lt 32, 3) ∧ decode cX12_four 7 = .ok (.aload_n 0, 1) ∧ decode cX12_four 8 = .ok (.getfield 30, 3) ∧ decode cX12_four 11 = .ok (.aload_n 0, 1) ∧ decode cX12_four 12 = .ok (.getfield 117, 3) ∧ decode cX12_four 15 = .ok (.iload_n 1, 1) ∧ decode cX12_four 16 = .ok (.iload_n 2, 1) := by decide +kernel
theorem e_X12_four_1 : decode cX12_four 17 = .ok (.ishr, 1) ∧ decode cX12_four 18 = .ok (.i2b, 1) ∧ decode cX12_four 19 = .ok (.bastore, 1) ∧ decode cX12_four 20 = .ok (.aload_n 0, 1) ∧ decode cX12_four 21 = .ok (.dup, 1) ∧ decode cX12_four 22 = .ok (.getfield 117, 3) ∧ decode cX12_four 25 = .ok (.iconst 1, 1) ∧ decode cX12_four 26 = .ok (.iadd, 1) ∧ decode cX12_four 27 = .ok (.putfield 117, 3) ∧ decode cX12_four 30 = .ok (.iinc 2 (-8), 3) := by decide +kernel
theorem e_X12_four_2 : decode cX12_four 33 = .ok (.goto (-30), 3) ∧ decode cX12_four 36 = .ok (.return_, 1) := by decide +kernel
abbrev E_X12_four_3 (G : Kg) (l1 l2 : Int) (σ : Kmem) (Q : Int → Kmem → Prop) : Prop := Ex G WM M_X12_four 0 0 0 3 [(0, vA G 0), (1, vI l1), (2, vI l2)] [] σ Q
theorem S_X12_four {G : Kg} {σ : Kmem} {Q : Int → Kmem → Prop} {l1 : Int}  (h : E_X12_four_3 G l1 24 σ Q) : Run G WM M_X12_four 0 0 0 [vA G 0, vI l1] σ Q := by
  refine Run.of (by decide +kernel) (by show (2 : Nat) ≤ 3; decide) ?_
  show Ex G WM M_X12_four 0 0 0 0 [(0, vA G 0), (1, vI l1)] [] σ Q
  refine R_bipush e_X12_four_0.1 (by decide) ?_
  refine R_istore_n (ls2 := [(2, vI 24), (0, vA G 0), (1, vI l1)]) e_X12_four_0.2.1 (by decide) rfl ?_
  refine R_ls (ls2 := [(0, vA G 0), (1, vI l1), (2, vI 24)]) [1, 2, 0] rfl ?_
  exact h
theorem S_X12_four_3 {G : Kg} {σ : Kmem} {Q : Int → Kmem → Prop} {l1 l2 : Int}  (h : (rI l2) ∧ ((l2 < 0 → Q 0 σ) ∧ (0 ≤ l2 → (0 ≤ σ 0 10 ∧ σ 0 10 < 900) ∧ ∀ m3 : Kmem, m3 = (kup σ 6 (σ 0 10) (ki2b (ki2b (kshr l1 l2)))) → ∀ m5 : Kmem, m5 = (kup m3 0 10 ((m3 0 10) + 1)) → E_X12_four_3 G l1 (l2 + (-8)) m5 Q))) : E_X12_four_3 G l1 l2 σ Q := by
  refine R_iload_n e_X12_four_0.2.2.1 2 rfl ?_
  obtain ⟨q1, h⟩ := h
  refine R_if_lt 36 e_X12_four_0.2.2.2.1 (by decide) q1  (fun q => ?_) (fun q => ?_)
  · replace h := h.1 q
    exact R_return e_X12_four_2.2 rfl h
  · replace h := h.2 q
    refine R_aload_n e_X12_four_0.2.2.2.2.1 0 rfl ?_
    refine R_getA 12 8 6 e_X12_four_0.2.2.2.2.2.1 f_X12_30 km_0 (fun _ _ => rfl) rm_0_8 (by decide) ?_
    refine R_aload_n e_X12_four_0.2.2.2.2.2.2.1 0 rfl ?_
    refine R_getI 12 10 10 e_X12_four_0.2.2.2.2.2.2.2.1 f_X12_117 km_0 (fun _ _ => rfl) rfl ?_
    refine R_iload_n e_X12_four_0.2.2.2.2.2.2.2.2.1 1 rfl ?_
    refine R_iload_n e_X12_four_0.2.2.2.2.2.2.2.2.2 2 rfl ?_
    refine R_ishr e_X12_four_1.1 ?_
    refine R_i2b e_X12_four_1.2.1 ?_
    obtain ⟨q2, h⟩ := h
    refine R_bast 900 WM_ok e_X12_four_1.2.2.1 kma_6 q2 ?_
    obtain ⟨m3, e4⟩ : ∃ z : Kmem, z = (kup σ 6 (σ 0 10) (ki2b (ki2b (kshr l1 l2)))) := ⟨_, rfl⟩
    rw [← e4]
    replace h := h m3 e4
    refine R_aload_n e_X12_four_1.2.2.2.1 0 rfl ?_
    refine R_dup e_X12_four_1.2.2.2.2.1 rfl ?_
    refine R_getI 12 10 10 e_X12_four_1.2.2.2.2.2.1 f_X12_117 km_0 (fun _ _ => rfl) rfl ?_
    refine R_iconst e_X12_four_1.2.2.2.2.2.2.1 ?_
    refine R_iadd e_X12_four_1.2.2.2.2.2.2.2.1 ?_
    refine R_putI 12 10 10 WM_ok e_X12_four_1.2.2.2.2.2.2.2.2.1 f_X12_117 km_0 rfl rfl rfl ?_
    obtain ⟨m5, e6⟩ : ∃ z : Kmem, z = (kup m3 0 10 ((m3 0 10) + 1)) := ⟨_, rfl⟩
    rw [← e6]
    replace h := h m5 e6
    refine R_iinc (ls2 := [(2, vI (l2 + (-8))), (0, vA G 0), (1, vI l1)]) e_X12_four_1.2.2.2.2.2.2.2.2.2 2 rfl (by decide) rfl ?_
    refine R_goto 3 e_X12_four_2.1 (by decide) ?_
    refine R_ls (ls2 := [(0, vA G 0), (1, vI l1), (2, vI (l2 + (-8)))]) [1, 2, 0] rfl ?_
    exact h
/-! KiteLandModel.byteAt(I)I -/
theorem e_X12_byteAt_0 : decode cX12_byteAt 0 = .ok (.iload_n 1, 1) ∧ decode cX12_byteAt 1 = .ok (.aload_n 0, 1) ∧ decode cX12_byteAt 2 = .ok (.getfield 123, 3) ∧ decode cX12_byteAt 5 = .ok (.if_icmp .ge 16, 3) ∧ decode cX12_byteAt 8 = .ok (.aload_n 0, 1) ∧ decode cX12_byteAt 9 = .ok (.getfield 34, 3) ∧ decode cX12_byteAt 12 = .ok (.iload_n 1, 1) ∧ decode cX12_byteAt 13 = .ok (.baload, 1) ∧ decode cX12_byteAt 14 = .ok (.sipush 255, 3) ∧ decode cX12_byteAt 17 = .ok (.iand, 1) := by decide +kernel
theorem e_X12_byteAt_1 : decode cX12_byteAt 18 = .ok (.goto 4, 3) ∧ decode cX12_byteAt 21 = .ok (.iconst (-1), 1) ∧ decode cX12_byteAt 22 = .ok (.ireturn, 1) := by decide +kernel
theorem S_X12_byteAt {G : Kg} {σ : Kmem} {Q : Int → Kmem → Prop} {l1 : Int}  (h : (rI l1) ∧ (rI (σ 0 11)) ∧ ((σ 0 11 ≤ l1 → Q (-1) σ) ∧ (l1 < σ 0 11 → (0 ≤ l1 ∧ l1 < 900) ∧ Q (kand (σ 7 l1) 255) σ))) : Run G WM M_X12_byteAt 0 0 0 [vA G 0, vI l1] σ Q := by
  refine Run.of (by decide +kernel) (by show (2 : Nat) ≤ 2; decide) ?_
  show Ex G WM M_X12_byteAt 0 0 0 0 [(0, vA G 0), (1, vI l1)] [] σ Q
  refine R_iload_n e_X12_byteAt_0.1 1 rfl ?_
  refine R_aload_n e_X12_byteAt_0.2.1 0 rfl ?_
  refine R_getI 12 11 11 e_X12_byteAt_0.2.2.1 f_X12_123 km_0 (fun _ _ => rfl) rfl ?_
  obtain ⟨q1, h⟩ := h
  obtain ⟨q2, h⟩ := h
  refine R_icmp_ge 21 e_X12_byteAt_0.2.2.2.1 (by decide) q1 q2 (fun q => ?_) (fun q => ?_)
  · replace h := h.1 q
    refine R_iconst e_X12_byteAt_1.2.1 ?_
    exact R_ireturn e_X12_byteAt_1.2.2 rfl h
  · replace h := h.2 q
    refine R_aload_n e_X12_byteAt_0.2.2.2.2.1 0 rfl ?_
    refine R_getA 12 9 7 e_X12_byteAt_0.2.2.2.2.2.1 f_X12_34 km_0 (fun _ _ => rfl) rm_0_9 (by decide) ?_
    refine R_iload_n e_X12_byteAt_0.2.2.2.2.2.2.1 1 rfl ?_
    obtain ⟨q3, h⟩ := h
    refine R_bald 900 e_X12_byteAt_0.2.2.2.2.2.2.2.1 kma_7 q3 ?_
    refine R_sipush e_X12_byteAt_0.2.2.2.2.2.2.2.2.1 (by decide) ?_
    refine R_iand e_X12_byteAt_0.2.2.2.2.2.2.2.2.2 ?_
    refine R_goto 22 e_X12_byteAt_1.1 (by decide) ?_
    exact R_ireturn e_X12_byteAt_1.2.2 rfl h
/-! KiteLandModel.narrowed(JI)J -/
theorem e_X12_narrowed_0 : decode cX12_narrowed 0 = .ok (.iload_n 2, 1) ∧ decode cX12_narrowed 1 = .ok (.ifCond .ne 10, 3) ∧ decode cX12_narrowed 4 = .ok (.lload_n 0, 1) ∧ decode cX12_narrowed 5 = .ok (.l2i, 1) ∧ decode cX12_narrowed 6 = .ok (.i2b, 1) ∧ decode cX12_narrowed 7 = .ok (.i2l, 1) ∧ decode cX12_narrowed 8 = .ok (.goto 27, 3) ∧ decode cX12_narrowed 11 = .ok (.iload_n 2, 1) ∧ decode cX12_narrowed 12 = .ok (.iconst 1, 1) ∧ decode cX12_narrowed 13 = .ok (.if_icmp .ne 10, 3) := by decide +kernel
theorem e_X12_narrowed_1 : decode cX12_narrowed 16 = .ok (.lload_n 0, 1) ∧ decode cX12_narrowed 17 = .ok (.l2i, 1) ∧ decode cX12_narrowed 18 = .ok (.i2s, 1) ∧ decode cX12_narrowed 19 = .ok (.i2l, 1) ∧ decode cX12_narrowed 20 = .ok (.goto 15, 3) ∧ decode cX12_narrowed 23 = .ok (.iload_n 2, 1) ∧ decode cX12_narrowed 24 = .ok (.iconst 2, 1) ∧ decode cX12_narrowed 25 = .ok (.if_icmp .ne 9, 3) ∧ decode cX12_narrowed 28 = .ok (.lload_n 0, 1) ∧ decode cX12_narrowed 29 = .ok (.l2i, 1) := by decide +kernel
theorem e_X12_narrowed_2 : decode cX12_narrowed 30 = .ok (.i2l, 1) ∧ decode cX12_narrowed 31 = .ok (.goto 4, 3) ∧ decode cX12_narrowed 34 = .ok (.lload_n 0, 1) ∧ decode cX12_narrowed 35 = .ok (.lreturn, 1) := by decide +kernel
theorem S_X12_narrowed {G : Kg} {σ : Kmem} {Q : Int → Kmem → Prop} {l0 l2 : Int}  (h : (rI l2) ∧ ((l2 ≠ 0 → ((l2 ≠ 1 → ((l2 ≠ 2 → Q l0 σ) ∧ (l2 = 2 → Q (ki2i l0) σ))) ∧ (l2 = 1 → (rI (ki2s l0)) ∧ Q (ki2s l0) σ))) ∧ (l2 = 0 → (rI (ki2b l0)) ∧ Q (ki2b l0) σ))) : Run G WM M_X12_narrowed 0 0 0 [vL l0, vI l2] σ Q := by
  refine Run.of (by decide +kernel) (by show (3 : Nat) ≤ 3; decide) ?_
  show Ex G WM M_X12_narrowed 0 0 0 0 [(0, vL l0), (2, vI l2)] [] σ Q
  refine R_iload_n e_X12_narrowed_0.1 1 rfl ?_
  obtain ⟨q1, h⟩ := h
  refine R_if_ne 11 e_X12_narrowed_0.2.1 (by decide) q1  (fun q => ?_) (fun q => ?_)
  · replace h := h.1 q
    refine R_iload_n e_X12_narrowed_0.2.2.2.2.2.2.2.1 1 rfl ?_
    refine R_iconst e_X12_narrowed_0.2.2.2.2.2.2.2.2.1 ?_
    refine R_icmp_ne 23 e_X12_narrowed_0.2.2.2.2.2.2.2.2.2 (by decide) q1 (by decide) (fun q => ?_) (fun q => ?_)
    · replace h := h.1 q
      refine R_iload_n e_X12_narrowed_1.2.2.2.2.2.1 1 rfl ?_
      refine R_iconst e_X12_narrowed_1.2.2.2.2.2.2.1 ?_
      refine R_icmp_ne 34 e_X12_narrowed_1.2.2.2.2.2.2.2.1 (by decide) q1 (by decide) (fun q => ?_) (fun q => ?_)
      · replace h := h.1 q
        refine R_lload_n e_X12_narrowed_2.2.2.1 0 rfl ?_
        exact R_lreturn e_X12_narrowed_2.2.2.2 rfl h
      · replace h := h.2 q
        refine R_lload_n e_X12_narrowed_1.2.2.2.2.2.2.2.2.1 0 rfl ?_
        refine R_l2i e_X12_narrowed_1.2.2.2.2.2.2.2.2.2 ?_
        refine R_eqs (st2 := [vI (ki2i l0)]) (by rw [← vI_ki2i]) rfl ?_
        refine R_i2l e_X12_narrowed_2.1 (ki2i_r _) ?_
        refine R_goto 35 e_X12_narrowed_2.2.1 (by decide) ?_
        exact R_lreturn e_X12_narrowed_2.2.2.2 rfl h
    · replace h := h.2 q
      refine R_lload_n e_X12_narrowed_1.1 0 rfl ?_
      refine R_l2i e_X12_narrowed_1.2.1 ?_
      refine R_i2s e_X12_narrowed_1.2.2.1 ?_
      obtain ⟨q2, h⟩ := h
      refine R_i2l e_X12_narrowed_1.2.2.2.1 q2 ?_
      refine R_goto 35 e_X12_narrowed_1.2.2.2.2.1 (by decide) ?_
      exact R_lreturn e_X12_narrowed_2.2.2.2 rfl h
  · replace h := h.2 q
    refine R_lload_n e_X12_narrowed_0.2.2.1 0 rfl ?_
    refine R_l2i e_X12_narrowed_0.2.2.2.1 ?_
    refine R_i2b e_X12_narrowed_0.2.2.2.2.1 ?_
    obtain ⟨q3, h⟩ := h
    refine R_i2l e_X12_narrowed_0.2.2.2.2.2.1 q3 ?_
    refine R_goto 35 e_X12_narrowed_0.2.2.2.2.2.2.1 (by decide) ?_
    exact R_lreturn e_X12_narrowed_2.2.2.2 rfl h
