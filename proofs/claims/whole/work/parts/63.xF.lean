/-! KiteLand$Plans.countOwnedFields()V -/
theorem e_X5_countOwnedFields_0 : decode cX5_countOwnedFields 0 = .ok (.iconst 0, 1) ∧ decode cX5_countOwnedFields 1 = .ok (.istore_n 1, 1) ∧ decode cX5_countOwnedFields 2 = .ok (.iload_n 1, 1) ∧ decode cX5_countOwnedFields 3 = .ok (.aload_n 0, 1) ∧ decode cX5_countOwnedFields 4 = .ok (.getfield 64, 3) ∧ decode cX5_countOwnedFields 7 = .ok (.getfield 84, 3) ∧ decode cX5_countOwnedFields 10 = .ok (.if_icmp .ge 56, 3) ∧ decode cX5_countOwnedFields 13 = .ok (.iconst 0, 1) ∧ decode cX5_countOwnedFields 14 = .ok (.istore_n 2, 1) ∧ decode cX5_countOwnedFields 15 = .ok (.iload_n 2, 1) := by decide +kernel
theorem e_X5_countOwnedFields_1 : decode cX5_countOwnedFields 16 = .ok (.aload_n 0, 1) ∧ decode cX5_countOwnedFields 17 = .ok (.getfield 64, 3) ∧ decode cX5_countOwnedFields 20 = .ok (.getfield 87, 3) ∧ decode cX5_countOwnedFields 23 = .ok (.if_icmp .ge 37, 3) ∧ decode cX5_countOwnedFields 26 = .ok (.aload_n 0, 1) ∧ decode cX5_countOwnedFields 27 = .ok (.getfield 68, 3) ∧ decode cX5_countOwnedFields 30 = .ok (.iload_n 2, 1) ∧ decode cX5_countOwnedFields 31 = .ok (.iload_n 1, 1) ∧ decode cX5_countOwnedFields 32 = .ok (.invokevirtual 90, 3) ∧ decode cX5_countOwnedFields 35 = .ok (.iconst (-1), 1) := by decide +kernel
theorem e_X5_countOwnedFields_2 : decode cX5_countOwnedFields 36 = .ok (.if_icmp .eq 18, 3) ∧ decode cX5_countOwnedFields 39 = .ok (.aload_n 0, 1) ∧ decode cX5_countOwnedFields 40 = .ok (.getfield 18, 3) ∧ decode cX5_countOwnedFields 43 = .ok (.iload_n 1, 1) ∧ decode cX5_countOwnedFields 44 = .ok (.bipush 9, 2) ∧ decode cX5_countOwnedFields 46 = .ok (.imul, 1) ∧ decode cX5_countOwnedFields 47 = .ok (.iload_n 2, 1) ∧ decode cX5_countOwnedFields 48 = .ok (.iadd, 1) ∧ decode cX5_countOwnedFields 49 = .ok (.dup2, 1) ∧ decode cX5_countOwnedFields 50 = .ok (.iaload, 1) := by decide +kernel
theorem e_X5_countOwnedFields_3 : decode cX5_countOwnedFields 51 = .ok (.iconst 1, 1) ∧ decode cX5_countOwnedFields 52 = .ok (.iadd, 1) ∧ decode cX5_countOwnedFields 53 = .ok (.iastore, 1) ∧ decode cX5_countOwnedFields 54 = .ok (.iinc 2 1, 3) ∧ decode cX5_countOwnedFields 57 = .ok (.goto (-42), 3) ∧ decode cX5_countOwnedFields 60 = .ok (.iinc 1 1, 3) ∧ decode cX5_countOwnedFields 63 = .ok (.goto (-61), 3) ∧ decode cX5_countOwnedFields 66 = .ok (.return_, 1) := by decide +kernel
abbrev E_X5_countOwnedFields_2 (G : Kg) (l1 : Int) (σ : Kmem) (Q : Int → Kmem → Prop) : Prop := Ex G WX M_X5_countOwnedFields 1 0 0 2 [(0, vA G 82), (1, vI l1)] [] σ Q
abbrev E_X5_countOwnedFields_15 (G : Kg) (l1 l2 : Int) (σ : Kmem) (Q : Int → Kmem → Prop) : Prop := Ex G WX M_X5_countOwnedFields 1 0 0 15 [(0, vA G 82), (1, vI l1), (2, vI l2)] [] σ Q
theorem S_X5_countOwnedFields {G : Kg} {σ : Kmem} {Q : Int → Kmem → Prop}  (h : E_X5_countOwnedFields_2 G 0 σ Q) : Run G WX M_X5_countOwnedFields 1 0 0 [vA G 82] σ Q := by
  refine Run.of (by decide +kernel) (by show (1 : Nat) ≤ 3; decide) ?_
  show Ex G WX M_X5_countOwnedFields 1 0 0 0 [(0, vA G 82)] [] σ Q
  refine R_iconst e_X5_countOwnedFields_0.1 ?_
  refine R_istore_n (ls2 := [(1, vI 0), (0, vA G 82)]) e_X5_countOwnedFields_0.2.1 (by decide) rfl ?_
  refine R_ls (ls2 := [(0, vA G 82), (1, vI 0)]) [1, 0] rfl ?_
  exact h
theorem S_X5_countOwnedFields_2 {G : Kg} {σ : Kmem} {Q : Int → Kmem → Prop} {l1 : Int}  (h : (rI l1) ∧ (rI (σ 31 1)) ∧ ((σ 31 1 ≤ l1 → Q 0 σ) ∧ (l1 < σ 31 1 → E_X5_countOwnedFields_15 G l1 0 σ Q))) : E_X5_countOwnedFields_2 G l1 σ Q := by
  refine R_iload_n e_X5_countOwnedFields_0.2.2.1 1 rfl ?_
  refine R_aload_n e_X5_countOwnedFields_0.2.2.2.1 0 rfl ?_
  refine R_getA 5 0 31 e_X5_countOwnedFields_0.2.2.2.2.1 f_X5_64 kx_82 (fun _ _ => rfl) rx_82_0 (by decide) ?_
  refine R_getI 0 1 1 e_X5_countOwnedFields_0.2.2.2.2.2.1 f_X5_84 (kC_self isC_31) (fun _ _ => rfl) rfl ?_
  obtain ⟨q1, h⟩ := h
  obtain ⟨q2, h⟩ := h
  refine R_icmp_ge 66 e_X5_countOwnedFields_0.2.2.2.2.2.2.1 (by decide) q1 q2 (fun q => ?_) (fun q => ?_)
  · replace h := h.1 q
    exact R_return e_X5_countOwnedFields_3.2.2.2.2.2.2.2 rfl h
  · replace h := h.2 q
    refine R_iconst e_X5_countOwnedFields_0.2.2.2.2.2.2.2.1 ?_
    refine R_istore_n (ls2 := [(2, vI 0), (0, vA G 82), (1, vI l1)]) e_X5_countOwnedFields_0.2.2.2.2.2.2.2.2.1 (by decide) rfl ?_
    refine R_ls (ls2 := [(0, vA G 82), (1, vI l1), (2, vI 0)]) [1, 2, 0] rfl ?_
    exact h
theorem S_X5_countOwnedFields_15 {G : Kg} {σ : Kmem} {Q : Int → Kmem → Prop} {l1 l2 : Int}  (h : (rI l2) ∧ (rI (σ 31 0)) ∧ ((σ 31 0 ≤ l2 → E_X5_countOwnedFields_2 G (l1 + 1) σ Q) ∧ (l2 < σ 31 0 → (0 ≤ (l1 * 9) + l2 ∧ (l1 * 9) + l2 < 63) ∧ (rI (σ 63 ((l1 * 9) + l2))) ∧ ((σ 63 ((l1 * 9) + l2) = -1 → E_X5_countOwnedFields_15 G l1 (l2 + 1) σ Q) ∧ (σ 63 ((l1 * 9) + l2) ≠ -1 → (0 ≤ (l1 * 9) + l2 ∧ (l1 * 9) + l2 < 63) ∧ (0 ≤ (l1 * 9) + l2 ∧ (l1 * 9) + l2 < 63) ∧ E_X5_countOwnedFields_15 G l1 (l2 + 1) (kup σ 83 ((l1 * 9) + l2) ((σ 83 ((l1 * 9) + l2)) + 1)) Q))))) : E_X5_countOwnedFields_15 G l1 l2 σ Q := by
  refine R_iload_n e_X5_countOwnedFields_0.2.2.2.2.2.2.2.2.2 2 rfl ?_
  refine R_aload_n e_X5_countOwnedFields_1.1 0 rfl ?_
  refine R_getA 5 0 31 e_X5_countOwnedFields_1.2.1 f_X5_64 kx_82 (fun _ _ => rfl) rx_82_0 (by decide) ?_
  refine R_getI 0 0 0 e_X5_countOwnedFields_1.2.2.1 f_X5_87 (kC_self isC_31) (fun _ _ => rfl) rfl ?_
  obtain ⟨q3, h⟩ := h
  obtain ⟨q4, h⟩ := h
  refine R_icmp_ge 60 e_X5_countOwnedFields_1.2.2.2.1 (by decide) q3 q4 (fun q => ?_) (fun q => ?_)
  · replace h := h.1 q
    refine R_iinc (ls2 := [(1, vI (l1 + 1)), (0, vA G 82), (2, vI l2)]) e_X5_countOwnedFields_3.2.2.2.2.2.1 1 rfl (by decide) rfl ?_
    refine R_goto 2 e_X5_countOwnedFields_3.2.2.2.2.2.2.1 (by decide) ?_
    refine R_ls (ls2 := [(0, vA G 82), (1, vI (l1 + 1))]) [1, 0] rfl ?_
    exact h
  · replace h := h.2 q
    refine R_aload_n e_X5_countOwnedFields_1.2.2.2.2.1 0 rfl ?_
    refine R_getA 5 1 58 e_X5_countOwnedFields_1.2.2.2.2.2.1 f_X5_68 kx_82 (fun _ _ => rfl) rx_82_1 (by decide) ?_
    refine R_iload_n e_X5_countOwnedFields_1.2.2.2.2.2.2.1 2 rfl ?_
    refine R_iload_n e_X5_countOwnedFields_1.2.2.2.2.2.2.2.1 1 rfl ?_
    refine R_callV (mc := 0) (ms := 0) (mc' := 0) (ms' := 0) (M' := M_X8_ownerOf) (d' := 0) (as := [vI l2, vI l1]) (st := []) 8 2 e_X5_countOwnedFields_1.2.2.2.2.2.2.2.2.1 (kCVof m_X8_ownerOf l_X5_90) rfl (by decide) kx_58 (by decide) (by decide) rfl rfl (by show (0 : Nat) ≤ 8; decide) ?_
    obtain ⟨q7, h⟩ := h
    refine S_X8_ownerOf ⟨q7, ?_⟩
    refine R_eqs (st2 := [vI (σ 63 ((l1 * 9) + l2))]) (σ2 := σ) rfl rfl ?_
    refine R_iconst e_X5_countOwnedFields_1.2.2.2.2.2.2.2.2.2 ?_
    obtain ⟨q8, h⟩ := h
    refine R_icmp_eq 54 e_X5_countOwnedFields_2.1 (by decide) q8 (by decide) (fun q => ?_) (fun q => ?_)
    · replace h := h.1 q
      refine R_iinc (ls2 := [(2, vI (l2 + 1)), (0, vA G 82), (1, vI l1)]) e_X5_countOwnedFields_3.2.2.2.1 2 rfl (by decide) rfl ?_
      refine R_goto 15 e_X5_countOwnedFields_3.2.2.2.2.1 (by decide) ?_
      refine R_ls (ls2 := [(0, vA G 82), (1, vI l1), (2, vI (l2 + 1))]) [1, 2, 0] rfl ?_
      exact h
    · replace h := h.2 q
      refine R_aload_n e_X5_countOwnedFields_2.2.1 0 rfl ?_
      refine R_getA 5 4 83 e_X5_countOwnedFields_2.2.2.1 f_X5_18 kx_82 (fun _ _ => rfl) rx_82_4 (by decide) ?_
      refine R_iload_n e_X5_countOwnedFields_2.2.2.2.1 1 rfl ?_
      refine R_bipush e_X5_countOwnedFields_2.2.2.2.2.1 (by decide) ?_
      refine R_imul e_X5_countOwnedFields_2.2.2.2.2.2.1 ?_
      refine R_iload_n e_X5_countOwnedFields_2.2.2.2.2.2.2.1 2 rfl ?_
      refine R_iadd e_X5_countOwnedFields_2.2.2.2.2.2.2.2.1 ?_
      refine R_dup2 e_X5_countOwnedFields_2.2.2.2.2.2.2.2.2.1 rfl rfl ?_
      obtain ⟨q9, h⟩ := h
      refine R_iald 63 e_X5_countOwnedFields_2.2.2.2.2.2.2.2.2.2 kxa_83 q9 ?_
      refine R_iconst e_X5_countOwnedFields_3.1 ?_
      refine R_iadd e_X5_countOwnedFields_3.2.1 ?_
      obtain ⟨q10, h⟩ := h
      refine R_iast 63 WX_ok e_X5_countOwnedFields_3.2.2.1 kxa_83 q10 ?_
      refine R_iinc (ls2 := [(2, vI (l2 + 1)), (0, vA G 82), (1, vI l1)]) e_X5_countOwnedFields_3.2.2.2.1 2 rfl (by decide) rfl ?_
      refine R_goto 15 e_X5_countOwnedFields_3.2.2.2.2.1 (by decide) ?_
      refine R_ls (ls2 := [(0, vA G 82), (1, vI l1), (2, vI (l2 + 1))]) [1, 2, 0] rfl ?_
      exact h
/-! KiteLand$Plans.seekPlanting(I)V -/
theorem e_X5_seekPlanting_0 : decode cX5_seekPlanting 0 = .ok (.iconst 0, 1) ∧ decode cX5_seekPlanting 1 = .ok (.istore_n 2, 1) ∧ decode cX5_seekPlanting 2 = .ok (.iload_n 2, 1) ∧ decode cX5_seekPlanting 3 = .ok (.bipush 63, 2) ∧ decode cX5_seekPlanting 5 = .ok (.if_icmp .ge 16, 3) ∧ decode cX5_seekPlanting 8 = .ok (.aload_n 0, 1) ∧ decode cX5_seekPlanting 9 = .ok (.getfield 18, 3) ∧ decode cX5_seekPlanting 12 = .ok (.iload_n 2, 1) ∧ decode cX5_seekPlanting 13 = .ok (.iconst 0, 1) ∧ decode cX5_seekPlanting 14 = .ok (.iastore, 1) := by decide +kernel
theorem e_X5_seekPlanting_1 : decode cX5_seekPlanting 15 = .ok (.iinc 2 1, 3) ∧ decode cX5_seekPlanting 18 = .ok (.goto (-16), 3) ∧ decode cX5_seekPlanting 21 = .ok (.iconst 0, 1) ∧ decode cX5_seekPlanting 22 = .ok (.istore_n 2, 1) ∧ decode cX5_seekPlanting 23 = .ok (.iload_n 2, 1) ∧ decode cX5_seekPlanting 24 = .ok (.iload_n 1, 1) ∧ decode cX5_seekPlanting 25 = .ok (.if_icmp .ge 38, 3) ∧ decode cX5_seekPlanting 28 = .ok (.aload_n 0, 1) ∧ decode cX5_seekPlanting 29 = .ok (.getfield 64, 3) ∧ decode cX5_seekPlanting 32 = .ok (.aload_n 0, 1) := by decide +kernel
theorem e_X5_seekPlanting_2 : decode cX5_seekPlanting 33 = .ok (.getfield 68, 3) ∧ decode cX5_seekPlanting 36 = .ok (.invokevirtual 72, 3) ∧ decode cX5_seekPlanting 39 = .ok (.pop, 1) ∧ decode cX5_seekPlanting 40 = .ok (.aload_n 0, 1) ∧ decode cX5_seekPlanting 41 = .ok (.getfield 64, 3) ∧ decode cX5_seekPlanting 44 = .ok (.dup, 1) ∧ decode cX5_seekPlanting 45 = .ok (.getfield 78, 3) ∧ decode cX5_seekPlanting 48 = .ok (.iconst 1, 1) ∧ decode cX5_seekPlanting 49 = .ok (.iadd, 1) ∧ decode cX5_seekPlanting 50 = .ok (.putfield 78, 3) := by decide +kernel
theorem e_X5_seekPlanting_3 : decode cX5_seekPlanting 53 = .ok (.aload_n 0, 1) ∧ decode cX5_seekPlanting 54 = .ok (.invokevirtual 81, 3) ∧ decode cX5_seekPlanting 57 = .ok (.iinc 2 1, 3) ∧ decode cX5_seekPlanting 60 = .ok (.goto (-37), 3) ∧ decode cX5_seekPlanting 63 = .ok (.aload_n 0, 1) ∧ decode cX5_seekPlanting 64 = .ok (.iconst (-1), 1) ∧ decode cX5_seekPlanting 65 = .ok (.putfield 15, 3) ∧ decode cX5_seekPlanting 68 = .ok (.iconst 0, 1) ∧ decode cX5_seekPlanting 69 = .ok (.istore_n 2, 1) ∧ decode cX5_seekPlanting 70 = .ok (.iload_n 2, 1) := by decide +kernel
theorem e_X5_seekPlanting_4 : decode cX5_seekPlanting 71 = .ok (.aload_n 0, 1) ∧ decode cX5_seekPlanting 72 = .ok (.getfield 64, 3) ∧ decode cX5_seekPlanting 75 = .ok (.getfield 84, 3) ∧ decode cX5_seekPlanting 78 = .ok (.if_icmp .ge 71, 3) ∧ decode cX5_seekPlanting 81 = .ok (.iconst 0, 1) ∧ decode cX5_seekPlanting 82 = .ok (.istore_n 3, 1) ∧ decode cX5_seekPlanting 83 = .ok (.iload_n 3, 1) ∧ decode cX5_seekPlanting 84 = .ok (.aload_n 0, 1) ∧ decode cX5_seekPlanting 85 = .ok (.getfield 64, 3) ∧ decode cX5_seekPlanting 88 = .ok (.getfield 87, 3) := by decide +kernel
theorem e_X5_seekPlanting_5 : decode cX5_seekPlanting 91 = .ok (.if_icmp .ge 52, 3) ∧ decode cX5_seekPlanting 94 = .ok (.aload_n 0, 1) ∧ decode cX5_seekPlanting 95 = .ok (.getfield 18, 3) ∧ decode cX5_seekPlanting 98 = .ok (.iload_n 2, 1) ∧ decode cX5_seekPlanting 99 = .ok (.bipush 9, 2) ∧ decode cX5_seekPlanting 101 = .ok (.imul, 1) ∧ decode cX5_seekPlanting 102 = .ok (.iload_n 3, 1) ∧ decode cX5_seekPlanting 103 = .ok (.iadd, 1) ∧ decode cX5_seekPlanting 104 = .ok (.iaload, 1) ∧ decode cX5_seekPlanting 105 = .ok (.aload_n 0, 1) := by decide +kernel
theorem e_X5_seekPlanting_6 : decode cX5_seekPlanting 106 = .ok (.getfield 15, 3) ∧ decode cX5_seekPlanting 109 = .ok (.if_icmp .le 28, 3) ∧ decode cX5_seekPlanting 112 = .ok (.aload_n 0, 1) ∧ decode cX5_seekPlanting 113 = .ok (.aload_n 0, 1) ∧ decode cX5_seekPlanting 114 = .ok (.getfield 18, 3) ∧ decode cX5_seekPlanting 117 = .ok (.iload_n 2, 1) ∧ decode cX5_seekPlanting 118 = .ok (.bipush 9, 2) ∧ decode cX5_seekPlanting 120 = .ok (.imul, 1) ∧ decode cX5_seekPlanting 121 = .ok (.iload_n 3, 1) ∧ decode cX5_seekPlanting 122 = .ok (.iadd, 1) := by decide +kernel
theorem e_X5_seekPlanting_7 : decode cX5_seekPlanting 123 = .ok (.iaload, 1) ∧ decode cX5_seekPlanting 124 = .ok (.putfield 15, 3) ∧ decode cX5_seekPlanting 127 = .ok (.aload_n 0, 1) ∧ decode cX5_seekPlanting 128 = .ok (.iload_n 2, 1) ∧ decode cX5_seekPlanting 129 = .ok (.bipush 10, 2) ∧ decode cX5_seekPlanting 131 = .ok (.imul, 1) ∧ decode cX5_seekPlanting 132 = .ok (.iload_n 3, 1) ∧ decode cX5_seekPlanting 133 = .ok (.iadd, 1) ∧ decode cX5_seekPlanting 134 = .ok (.putfield 9, 3) ∧ decode cX5_seekPlanting 137 = .ok (.iinc 3 1, 3) := by decide +kernel
theorem e_X5_seekPlanting_8 : decode cX5_seekPlanting 140 = .ok (.goto (-57), 3) ∧ decode cX5_seekPlanting 143 = .ok (.iinc 2 1, 3) ∧ decode cX5_seekPlanting 146 = .ok (.goto (-76), 3) ∧ decode cX5_seekPlanting 149 = .ok (.return_, 1) := by decide +kernel
abbrev E_X5_seekPlanting_2 (G : Kg) (l1 l2 : Int) (σ : Kmem) (Q : Int → Kmem → Prop) : Prop := Ex G WX M_X5_seekPlanting 4 0 0 2 [(0, vA G 82), (1, vI l1), (2, vI l2)] [] σ Q
abbrev E_X5_seekPlanting_23 (G : Kg) (l1 l2 : Int) (σ : Kmem) (Q : Int → Kmem → Prop) : Prop := Ex G WX M_X5_seekPlanting 4 0 0 23 [(0, vA G 82), (1, vI l1), (2, vI l2)] [] σ Q
abbrev E_X5_seekPlanting_70 (G : Kg) (l2 : Int) (σ : Kmem) (Q : Int → Kmem → Prop) : Prop := Ex G WX M_X5_seekPlanting 4 0 0 70 [(0, vA G 82), (2, vI l2)] [] σ Q
abbrev E_X5_seekPlanting_83 (G : Kg) (l2 l3 : Int) (σ : Kmem) (Q : Int → Kmem → Prop) : Prop := Ex G WX M_X5_seekPlanting 4 0 0 83 [(0, vA G 82), (2, vI l2), (3, vI l3)] [] σ Q
theorem S_X5_seekPlanting {G : Kg} {σ : Kmem} {Q : Int → Kmem → Prop} {l1 : Int}  (h : E_X5_seekPlanting_2 G l1 0 σ Q) : Run G WX M_X5_seekPlanting 4 0 0 [vA G 82, vI l1] σ Q := by
  refine Run.of (by decide +kernel) (by show (2 : Nat) ≤ 4; decide) ?_
  show Ex G WX M_X5_seekPlanting 4 0 0 0 [(0, vA G 82), (1, vI l1)] [] σ Q
  refine R_iconst e_X5_seekPlanting_0.1 ?_
  refine R_istore_n (ls2 := [(2, vI 0), (0, vA G 82), (1, vI l1)]) e_X5_seekPlanting_0.2.1 (by decide) rfl ?_
  refine R_ls (ls2 := [(0, vA G 82), (1, vI l1), (2, vI 0)]) [1, 2, 0] rfl ?_
  exact h
theorem S_X5_seekPlanting_2 {G : Kg} {σ : Kmem} {Q : Int → Kmem → Prop} {l1 l2 : Int}  (h : (rI l2) ∧ ((63 ≤ l2 → E_X5_seekPlanting_23 G l1 0 σ Q) ∧ (l2 < 63 → (0 ≤ l2 ∧ l2 < 63) ∧ E_X5_seekPlanting_2 G l1 (l2 + 1) (kup σ 83 l2 0) Q))) : E_X5_seekPlanting_2 G l1 l2 σ Q := by
  refine R_iload_n e_X5_seekPlanting_0.2.2.1 2 rfl ?_
  refine R_bipush e_X5_seekPlanting_0.2.2.2.1 (by decide) ?_
  obtain ⟨q1, h⟩ := h
  refine R_icmp_ge 21 e_X5_seekPlanting_0.2.2.2.2.1 (by decide) q1 (by decide) (fun q => ?_) (fun q => ?_)
  · replace h := h.1 q
    refine R_iconst e_X5_seekPlanting_1.2.2.1 ?_
    refine R_istore_n (ls2 := [(2, vI 0), (0, vA G 82), (1, vI l1)]) e_X5_seekPlanting_1.2.2.2.1 (by decide) rfl ?_
    refine R_ls (ls2 := [(0, vA G 82), (1, vI l1), (2, vI 0)]) [1, 2, 0] rfl ?_
    exact h
  · replace h := h.2 q
    refine R_aload_n e_X5_seekPlanting_0.2.2.2.2.2.1 0 rfl ?_
    refine R_getA 5 4 83 e_X5_seekPlanting_0.2.2.2.2.2.2.1 f_X5_18 kx_82 (fun _ _ => rfl) rx_82_4 (by decide) ?_
    refine R_iload_n e_X5_seekPlanting_0.2.2.2.2.2.2.2.1 2 rfl ?_
    refine R_iconst e_X5_seekPlanting_0.2.2.2.2.2.2.2.2.1 ?_
    obtain ⟨q2, h⟩ := h
    refine R_iast 63 WX_ok e_X5_seekPlanting_0.2.2.2.2.2.2.2.2.2 kxa_83 q2 ?_
    refine R_iinc (ls2 := [(2, vI (l2 + 1)), (0, vA G 82), (1, vI l1)]) e_X5_seekPlanting_1.1 2 rfl (by decide) rfl ?_
    refine R_goto 2 e_X5_seekPlanting_1.2.1 (by decide) ?_
    refine R_ls (ls2 := [(0, vA G 82), (1, vI l1), (2, vI (l2 + 1))]) [1, 2, 0] rfl ?_
    exact h
theorem S_X5_seekPlanting_23 {G : Kg} {σ : Kmem} {Q : Int → Kmem → Prop} {l1 l2 : Int}  (h : (rI l2) ∧ (rI l1) ∧ ((l1 ≤ l2 → E_X5_seekPlanting_70 G 0 (kup σ 82 3 (-1)) Q) ∧ (l2 < l1 → Run G WX M_X0_loseCrossed 3 0 0 [vA G 31, vA G 58] σ (fun r5 s6 => Run G WX M_X5_countOwnedFields 1 0 0 [vA G 82] (kup s6 31 4 ((s6 31 4) + 1)) (fun r7 s8 => E_X5_seekPlanting_23 G l1 (l2 + 1) s8 Q))))) : E_X5_seekPlanting_23 G l1 l2 σ Q := by
  refine R_iload_n e_X5_seekPlanting_1.2.2.2.2.1 2 rfl ?_
  refine R_iload_n e_X5_seekPlanting_1.2.2.2.2.2.1 1 rfl ?_
  obtain ⟨q3, h⟩ := h
  obtain ⟨q4, h⟩ := h
  refine R_icmp_ge 63 e_X5_seekPlanting_1.2.2.2.2.2.2.1 (by decide) q3 q4 (fun q => ?_) (fun q => ?_)
  · replace h := h.1 q
    refine R_aload_n e_X5_seekPlanting_3.2.2.2.2.1 0 rfl ?_
    refine R_iconst e_X5_seekPlanting_3.2.2.2.2.2.1 ?_
    refine R_putI 5 3 3 WX_ok e_X5_seekPlanting_3.2.2.2.2.2.2.1 f_X5_15 kx_82 rfl rfl rfl ?_
    refine R_iconst e_X5_seekPlanting_3.2.2.2.2.2.2.2.1 ?_
    refine R_istore_n (ls2 := [(2, vI 0), (0, vA G 82), (1, vI l1)]) e_X5_seekPlanting_3.2.2.2.2.2.2.2.2.1 (by decide) rfl ?_
    refine R_ls (ls2 := [(0, vA G 82), (2, vI 0)]) [1, 0] rfl ?_
    exact h
  · replace h := h.2 q
    refine R_aload_n e_X5_seekPlanting_1.2.2.2.2.2.2.2.1 0 rfl ?_
    refine R_getA 5 0 31 e_X5_seekPlanting_1.2.2.2.2.2.2.2.2.1 f_X5_64 kx_82 (fun _ _ => rfl) rx_82_0 (by decide) ?_
    refine R_aload_n e_X5_seekPlanting_1.2.2.2.2.2.2.2.2.2 0 rfl ?_
    refine R_getA 5 1 58 e_X5_seekPlanting_2.1 f_X5_68 kx_82 (fun _ _ => rfl) rx_82_1 (by decide) ?_
    refine R_callV (mc := 0) (ms := 0) (mc' := 0) (ms' := 0) (M' := M_X0_loseCrossed) (d' := 3) (as := [vA G 58]) (st := []) 0 1 e_X5_seekPlanting_2.2.1 (kCVof m_X0_loseCrossed l_X5_72) rfl (by decide) (kC_self isC_31) (by decide) (by decide) rfl rfl (by show (0 : Nat) ≤ 8; decide) ?_
    refine Run.mono h (fun r5 s6 h => ?_)
    refine R_eqs (st2 := [vI r5]) rfl rfl ?_
    refine R_pop e_X5_seekPlanting_2.2.2.1 rfl ?_
    refine R_aload_n e_X5_seekPlanting_2.2.2.2.1 0 rfl ?_
    refine R_getA 5 0 31 e_X5_seekPlanting_2.2.2.2.2.1 f_X5_64 kx_82 (fun _ _ => rfl) rx_82_0 (by decide) ?_
    refine R_dup e_X5_seekPlanting_2.2.2.2.2.2.1 rfl ?_
    refine R_getI 0 4 4 e_X5_seekPlanting_2.2.2.2.2.2.2.1 f_X5_78 (kC_self isC_31) (fun _ _ => rfl) rfl ?_
    refine R_iconst e_X5_seekPlanting_2.2.2.2.2.2.2.2.1 ?_
    refine R_iadd e_X5_seekPlanting_2.2.2.2.2.2.2.2.2.1 ?_
    refine R_putI 0 4 4 WX_ok e_X5_seekPlanting_2.2.2.2.2.2.2.2.2.2 f_X5_78 (kC_self isC_31) rfl rfl rfl ?_
    refine R_aload_n e_X5_seekPlanting_3.1 0 rfl ?_
    refine R_callV (mc := 0) (ms := 0) (mc' := 0) (ms' := 0) (M' := M_X5_countOwnedFields) (d' := 1) (as := []) (st := []) 5 0 e_X5_seekPlanting_3.2.1 (kCVof m_X5_countOwnedFields l_X5_81) rfl (by decide) kx_82 (by decide) (by decide) rfl rfl (by show (0 : Nat) ≤ 8; decide) ?_
    refine Run.mono h (fun r7 s8 h => ?_)
    refine R_eqs (st2 := []) rfl rfl ?_
    refine R_iinc (ls2 := [(2, vI (l2 + 1)), (0, vA G 82), (1, vI l1)]) e_X5_seekPlanting_3.2.2.1 2 rfl (by decide) rfl ?_
    refine R_goto 23 e_X5_seekPlanting_3.2.2.2.1 (by decide) ?_
    refine R_ls (ls2 := [(0, vA G 82), (1, vI l1), (2, vI (l2 + 1))]) [1, 2, 0] rfl ?_
    exact h
theorem S_X5_seekPlanting_70 {G : Kg} {σ : Kmem} {Q : Int → Kmem → Prop} {l1 l2 : Int}  (h : (rI l2) ∧ (rI (σ 31 1)) ∧ ((σ 31 1 ≤ l2 → Q 0 σ) ∧ (l2 < σ 31 1 → E_X5_seekPlanting_83 G l2 0 σ Q))) : E_X5_seekPlanting_70 G l2 σ Q := by
  refine R_iload_n e_X5_seekPlanting_3.2.2.2.2.2.2.2.2.2 1 rfl ?_
  refine R_aload_n e_X5_seekPlanting_4.1 0 rfl ?_
  refine R_getA 5 0 31 e_X5_seekPlanting_4.2.1 f_X5_64 kx_82 (fun _ _ => rfl) rx_82_0 (by decide) ?_
  refine R_getI 0 1 1 e_X5_seekPlanting_4.2.2.1 f_X5_84 (kC_self isC_31) (fun _ _ => rfl) rfl ?_
  obtain ⟨q9, h⟩ := h
  obtain ⟨q10, h⟩ := h
  refine R_icmp_ge 149 e_X5_seekPlanting_4.2.2.2.1 (by decide) q9 q10 (fun q => ?_) (fun q => ?_)
  · replace h := h.1 q
    exact R_return e_X5_seekPlanting_8.2.2.2 rfl h
  · replace h := h.2 q
    refine R_iconst e_X5_seekPlanting_4.2.2.2.2.1 ?_
    refine R_istore_n (ls2 := [(3, vI 0), (0, vA G 82), (2, vI l2)]) e_X5_seekPlanting_4.2.2.2.2.2.1 (by decide) rfl ?_
    refine R_ls (ls2 := [(0, vA G 82), (2, vI l2), (3, vI 0)]) [1, 2, 0] rfl ?_
    exact h
theorem S_X5_seekPlanting_83 {G : Kg} {σ : Kmem} {Q : Int → Kmem → Prop} {l1 l2 l3 : Int}  (h : (rI l3) ∧ (rI (σ 31 0)) ∧ ((σ 31 0 ≤ l3 → E_X5_seekPlanting_70 G (l2 + 1) σ Q) ∧ (l3 < σ 31 0 → (0 ≤ (l2 * 9) + l3 ∧ (l2 * 9) + l3 < 63) ∧ (rI (σ 83 ((l2 * 9) + l3))) ∧ (rI (σ 82 3)) ∧ ((σ 83 ((l2 * 9) + l3) ≤ σ 82 3 → E_X5_seekPlanting_83 G l2 (l3 + 1) σ Q) ∧ (σ 82 3 < σ 83 ((l2 * 9) + l3) → (0 ≤ (l2 * 9) + l3 ∧ (l2 * 9) + l3 < 63) ∧ E_X5_seekPlanting_83 G l2 (l3 + 1) (kup (kup σ 82 3 (σ 83 ((l2 * 9) + l3))) 82 2 ((l2 * 10) + l3)) Q))))) : E_X5_seekPlanting_83 G l2 l3 σ Q := by
  refine R_iload_n e_X5_seekPlanting_4.2.2.2.2.2.2.1 2 rfl ?_
  refine R_aload_n e_X5_seekPlanting_4.2.2.2.2.2.2.2.1 0 rfl ?_
  refine R_getA 5 0 31 e_X5_seekPlanting_4.2.2.2.2.2.2.2.2.1 f_X5_64 kx_82 (fun _ _ => rfl) rx_82_0 (by decide) ?_
  refine R_getI 0 0 0 e_X5_seekPlanting_4.2.2.2.2.2.2.2.2.2 f_X5_87 (kC_self isC_31) (fun _ _ => rfl) rfl ?_
  obtain ⟨q11, h⟩ := h
  obtain ⟨q12, h⟩ := h
  refine R_icmp_ge 143 e_X5_seekPlanting_5.1 (by decide) q11 q12 (fun q => ?_) (fun q => ?_)
  · replace h := h.1 q
    refine R_iinc (ls2 := [(2, vI (l2 + 1)), (0, vA G 82), (3, vI l3)]) e_X5_seekPlanting_8.2.1 1 rfl (by decide) rfl ?_
    refine R_goto 70 e_X5_seekPlanting_8.2.2.1 (by decide) ?_
    refine R_ls (ls2 := [(0, vA G 82), (2, vI (l2 + 1))]) [1, 0] rfl ?_
    exact h
  · replace h := h.2 q
    refine R_aload_n e_X5_seekPlanting_5.2.1 0 rfl ?_
    refine R_getA 5 4 83 e_X5_seekPlanting_5.2.2.1 f_X5_18 kx_82 (fun _ _ => rfl) rx_82_4 (by decide) ?_
    refine R_iload_n e_X5_seekPlanting_5.2.2.2.1 1 rfl ?_
    refine R_bipush e_X5_seekPlanting_5.2.2.2.2.1 (by decide) ?_
    refine R_imul e_X5_seekPlanting_5.2.2.2.2.2.1 ?_
    refine R_iload_n e_X5_seekPlanting_5.2.2.2.2.2.2.1 2 rfl ?_
    refine R_iadd e_X5_seekPlanting_5.2.2.2.2.2.2.2.1 ?_
    obtain ⟨q13, h⟩ := h
    refine R_iald 63 e_X5_seekPlanting_5.2.2.2.2.2.2.2.2.1 kxa_83 q13 ?_
    refine R_aload_n e_X5_seekPlanting_5.2.2.2.2.2.2.2.2.2 0 rfl ?_
    refine R_getI 5 3 3 e_X5_seekPlanting_6.1 f_X5_15 kx_82 (fun _ _ => rfl) rfl ?_
    obtain ⟨q14, h⟩ := h
    obtain ⟨q15, h⟩ := h
    refine R_icmp_le 137 e_X5_seekPlanting_6.2.1 (by decide) q14 q15 (fun q => ?_) (fun q => ?_)
    · replace h := h.1 q
      refine R_iinc (ls2 := [(3, vI (l3 + 1)), (0, vA G 82), (2, vI l2)]) e_X5_seekPlanting_7.2.2.2.2.2.2.2.2.2 2 rfl (by decide) rfl ?_
      refine R_goto 83 e_X5_seekPlanting_8.1 (by decide) ?_
      refine R_ls (ls2 := [(0, vA G 82), (2, vI l2), (3, vI (l3 + 1))]) [1, 2, 0] rfl ?_
      exact h
    · replace h := h.2 q
      refine R_aload_n e_X5_seekPlanting_6.2.2.1 0 rfl ?_
      refine R_aload_n e_X5_seekPlanting_6.2.2.2.1 0 rfl ?_
      refine R_getA 5 4 83 e_X5_seekPlanting_6.2.2.2.2.1 f_X5_18 kx_82 (fun _ _ => rfl) rx_82_4 (by decide) ?_
      refine R_iload_n e_X5_seekPlanting_6.2.2.2.2.2.1 1 rfl ?_
      refine R_bipush e_X5_seekPlanting_6.2.2.2.2.2.2.1 (by decide) ?_
      refine R_imul e_X5_seekPlanting_6.2.2.2.2.2.2.2.1 ?_
      refine R_iload_n e_X5_seekPlanting_6.2.2.2.2.2.2.2.2.1 2 rfl ?_
      refine R_iadd e_X5_seekPlanting_6.2.2.2.2.2.2.2.2.2 ?_
      obtain ⟨q16, h⟩ := h
      refine R_iald 63 e_X5_seekPlanting_7.1 kxa_83 q16 ?_
      refine R_putI 5 3 3 WX_ok e_X5_seekPlanting_7.2.1 f_X5_15 kx_82 rfl rfl rfl ?_
      refine R_aload_n e_X5_seekPlanting_7.2.2.1 0 rfl ?_
      refine R_iload_n e_X5_seekPlanting_7.2.2.2.1 1 rfl ?_
      refine R_bipush e_X5_seekPlanting_7.2.2.2.2.1 (by decide) ?_
      refine R_imul e_X5_seekPlanting_7.2.2.2.2.2.1 ?_
      refine R_iload_n e_X5_seekPlanting_7.2.2.2.2.2.2.1 2 rfl ?_
      refine R_iadd e_X5_seekPlanting_7.2.2.2.2.2.2.2.1 ?_
      refine R_putI 5 2 2 WX_ok e_X5_seekPlanting_7.2.2.2.2.2.2.2.2.1 f_X5_9 kx_82 rfl rfl rfl ?_
      refine R_iinc (ls2 := [(3, vI (l3 + 1)), (0, vA G 82), (2, vI l2)]) e_X5_seekPlanting_7.2.2.2.2.2.2.2.2.2 2 rfl (by decide) rfl ?_
      refine R_goto 83 e_X5_seekPlanting_8.1 (by decide) ?_
      refine R_ls (ls2 := [(0, vA G 82), (2, vI l2), (3, vI (l3 + 1))]) [1, 2, 0] rfl ?_
      exact h
/-! KiteLand$Plans.isCovering(II)Z -/
theorem e_X5_isCovering_0 : decode cX5_isCovering 0 = .ok (.iconst 0, 1) ∧ decode cX5_isCovering 1 = .ok (.istore_n 3, 1) ∧ decode cX5_isCovering 2 = .ok (.iload_n 3, 1) ∧ decode cX5_isCovering 3 = .ok (.iload_n 2, 1) ∧ decode cX5_isCovering 4 = .ok (.if_icmp .ge 22, 3) ∧ decode cX5_isCovering 7 = .ok (.aload_n 0, 1) ∧ decode cX5_isCovering 8 = .ok (.getfield 52, 3) ∧ decode cX5_isCovering 11 = .ok (.iload_n 3, 1) ∧ decode cX5_isCovering 12 = .ok (.iaload, 1) ∧ decode cX5_isCovering 13 = .ok (.iload_n 1, 1) := by decide +kernel
theorem e_X5_isCovering_1 : decode cX5_isCovering 14 = .ok (.iand, 1) ∧ decode cX5_isCovering 15 = .ok (.ifCond .ne 5, 3) ∧ decode cX5_isCovering 18 = .ok (.iconst 0, 1) ∧ decode cX5_isCovering 19 = .ok (.ireturn, 1) ∧ decode cX5_isCovering 20 = .ok (.iinc 3 1, 3) ∧ decode cX5_isCovering 23 = .ok (.goto (-21), 3) ∧ decode cX5_isCovering 26 = .ok (.iconst 1, 1) ∧ decode cX5_isCovering 27 = .ok (.ireturn, 1) := by decide +kernel
abbrev E_X5_isCovering_2 (G : Kg) (l1 l2 l3 : Int) (σ : Kmem) (Q : Int → Kmem → Prop) : Prop := Ex G WX M_X5_isCovering 0 0 0 2 [(0, vA G 82), (1, vI l1), (2, vI l2), (3, vI l3)] [] σ Q
theorem S_X5_isCovering {G : Kg} {σ : Kmem} {Q : Int → Kmem → Prop} {l1 l2 : Int}  (h : E_X5_isCovering_2 G l1 l2 0 σ Q) : Run G WX M_X5_isCovering 0 0 0 [vA G 82, vI l1, vI l2] σ Q := by
  refine Run.of (by decide +kernel) (by show (3 : Nat) ≤ 4; decide) ?_
  show Ex G WX M_X5_isCovering 0 0 0 0 [(0, vA G 82), (1, vI l1), (2, vI l2)] [] σ Q
  refine R_iconst e_X5_isCovering_0.1 ?_
  refine R_istore_n (ls2 := [(3, vI 0), (0, vA G 82), (1, vI l1), (2, vI l2)]) e_X5_isCovering_0.2.1 (by decide) rfl ?_
  refine R_ls (ls2 := [(0, vA G 82), (1, vI l1), (2, vI l2), (3, vI 0)]) [1, 2, 3, 0] rfl ?_
  exact h
theorem S_X5_isCovering_2 {G : Kg} {σ : Kmem} {Q : Int → Kmem → Prop} {l1 l2 l3 : Int}  (h : (rI l3) ∧ (rI l2) ∧ ((l2 ≤ l3 → Q 1 σ) ∧ (l3 < l2 → (0 ≤ l3 ∧ l3 < 20) ∧ (rI (kand (σ 87 l3) l1)) ∧ ((kand (σ 87 l3) l1 ≠ 0 → E_X5_isCovering_2 G l1 l2 (l3 + 1) σ Q) ∧ (kand (σ 87 l3) l1 = 0 → Q 0 σ))))) : E_X5_isCovering_2 G l1 l2 l3 σ Q := by
  refine R_iload_n e_X5_isCovering_0.2.2.1 3 rfl ?_
  refine R_iload_n e_X5_isCovering_0.2.2.2.1 2 rfl ?_
  obtain ⟨q1, h⟩ := h
  obtain ⟨q2, h⟩ := h
  refine R_icmp_ge 26 e_X5_isCovering_0.2.2.2.2.1 (by decide) q1 q2 (fun q => ?_) (fun q => ?_)
  · replace h := h.1 q
    refine R_iconst e_X5_isCovering_1.2.2.2.2.2.2.1 ?_
    exact R_zreturn e_X5_isCovering_1.2.2.2.2.2.2.2 rfl (Or.inr rfl) h
  · replace h := h.2 q
    refine R_aload_n e_X5_isCovering_0.2.2.2.2.2.1 0 rfl ?_
    refine R_getA 5 15 87 e_X5_isCovering_0.2.2.2.2.2.2.1 f_X5_52 kx_82 (fun _ _ => rfl) rx_82_15 (by decide) ?_
    refine R_iload_n e_X5_isCovering_0.2.2.2.2.2.2.2.1 3 rfl ?_
    obtain ⟨q3, h⟩ := h
    refine R_iald 20 e_X5_isCovering_0.2.2.2.2.2.2.2.2.1 kxa_87 q3 ?_
    refine R_iload_n e_X5_isCovering_0.2.2.2.2.2.2.2.2.2 1 rfl ?_
    refine R_iand e_X5_isCovering_1.1 ?_
    obtain ⟨q4, h⟩ := h
    refine R_if_ne 20 e_X5_isCovering_1.2.1 (by decide) q4  (fun q => ?_) (fun q => ?_)
    · replace h := h.1 q
      refine R_iinc (ls2 := [(3, vI (l3 + 1)), (0, vA G 82), (1, vI l1), (2, vI l2)]) e_X5_isCovering_1.2.2.2.2.1 3 rfl (by decide) rfl ?_
      refine R_goto 2 e_X5_isCovering_1.2.2.2.2.2.1 (by decide) ?_
      refine R_ls (ls2 := [(0, vA G 82), (1, vI l1), (2, vI l2), (3, vI (l3 + 1))]) [1, 2, 3, 0] rfl ?_
      exact h
    · replace h := h.2 q
      refine R_iconst e_X5_isCovering_1.2.2.1 ?_
      exact R_zreturn e_X5_isCovering_1.2.2.2.1 rfl (Or.inl rfl) h
/-! KiteLand$Plans.seekCover([JI)Z -/
theorem e_X5_seekCover_0 : decode cX5_seekCover 0 = .ok (.iconst 0, 1) ∧ decode cX5_seekCover 1 = .ok (.istore_n 3, 1) ∧ decode cX5_seekCover 2 = .ok (.iload_n 3, 1) ∧ decode cX5_seekCover 3 = .ok (.iload_n 2, 1) ∧ decode cX5_seekCover 4 = .ok (.if_icmp .ge 38, 3) ∧ decode cX5_seekCover 7 = .ok (.aload_n 1, 1) ∧ decode cX5_seekCover 8 = .ok (.iload_n 3, 1) ∧ decode cX5_seekCover 9 = .ok (.laload, 1) ∧ decode cX5_seekCover 10 = .ok (.l2i, 1) ∧ decode cX5_seekCover 11 = .ok (.istore 4, 2) := by decide +kernel
theorem e_X5_seekCover_1 : decode cX5_seekCover 13 = .ok (.aload_n 0, 1) ∧ decode cX5_seekCover 14 = .ok (.getfield 52, 3) ∧ decode cX5_seekCover 17 = .ok (.iload_n 3, 1) ∧ decode cX5_seekCover 18 = .ok (.aload_n 0, 1) ∧ decode cX5_seekCover 19 = .ok (.getfield 68, 3) ∧ decode cX5_seekCover 22 = .ok (.iload 4, 2) ∧ decode cX5_seekCover 24 = .ok (.bipush 10, 2) ∧ decode cX5_seekCover 26 = .ok (.irem, 1) ∧ decode cX5_seekCover 27 = .ok (.iload 4, 2) ∧ decode cX5_seekCover 29 = .ok (.bipush 10, 2) := by decide +kernel
theorem e_X5_seekCover_2 : decode cX5_seekCover 31 = .ok (.idiv, 1) ∧ decode cX5_seekCover 32 = .ok (.invokevirtual 133, 3) ∧ decode cX5_seekCover 35 = .ok (.iastore, 1) ∧ decode cX5_seekCover 36 = .ok (.iinc 3 1, 3) ∧ decode cX5_seekCover 39 = .ok (.goto (-37), 3) ∧ decode cX5_seekCover 42 = .ok (.aload_n 0, 1) ∧ decode cX5_seekCover 43 = .ok (.iconst (-1), 1) ∧ decode cX5_seekCover 44 = .ok (.putfield 49, 3) ∧ decode cX5_seekCover 47 = .ok (.bipush 7, 2) ∧ decode cX5_seekCover 49 = .ok (.istore_n 3, 1) := by decide +kernel
theorem e_X5_seekCover_3 : decode cX5_seekCover 50 = .ok (.iconst 0, 1) ∧ decode cX5_seekCover 51 = .ok (.istore 4, 2) ∧ decode cX5_seekCover 53 = .ok (.iload 4, 2) ∧ decode cX5_seekCover 55 = .ok (.bipush 64, 2) ∧ decode cX5_seekCover 57 = .ok (.if_icmp .ge 40, 3) ∧ decode cX5_seekCover 60 = .ok (.iload 4, 2) ∧ decode cX5_seekCover 62 = .ok (.invokestatic 136, 3) ∧ decode cX5_seekCover 65 = .ok (.iload_n 3, 1) ∧ decode cX5_seekCover 66 = .ok (.if_icmp .ge 25, 3) ∧ decode cX5_seekCover 69 = .ok (.aload_n 0, 1) := by decide +kernel
theorem e_X5_seekCover_4 : decode cX5_seekCover 70 = .ok (.iload 4, 2) ∧ decode cX5_seekCover 72 = .ok (.iload_n 2, 1) ∧ decode cX5_seekCover 73 = .ok (.invokevirtual 142, 3) ∧ decode cX5_seekCover 76 = .ok (.ifCond .eq 15, 3) ∧ decode cX5_seekCover 79 = .ok (.iload 4, 2) ∧ decode cX5_seekCover 81 = .ok (.invokestatic 136, 3) ∧ decode cX5_seekCover 84 = .ok (.istore_n 3, 1) ∧ decode cX5_seekCover 85 = .ok (.aload_n 0, 1) ∧ decode cX5_seekCover 86 = .ok (.iload 4, 2) ∧ decode cX5_seekCover 88 = .ok (.putfield 49, 3) := by decide +kernel
theorem e_X5_seekCover_5 : decode cX5_seekCover 91 = .ok (.iinc 4 1, 3) ∧ decode cX5_seekCover 94 = .ok (.goto (-41), 3) ∧ decode cX5_seekCover 97 = .ok (.aload_n 0, 1) ∧ decode cX5_seekCover 98 = .ok (.getfield 49, 3) ∧ decode cX5_seekCover 101 = .ok (.iconst (-1), 1) ∧ decode cX5_seekCover 102 = .ok (.if_icmp .eq 7, 3) ∧ decode cX5_seekCover 105 = .ok (.iconst 1, 1) ∧ decode cX5_seekCover 106 = .ok (.goto 4, 3) ∧ decode cX5_seekCover 109 = .ok (.iconst 0, 1) ∧ decode cX5_seekCover 110 = .ok (.ireturn, 1) := by decide +kernel
abbrev E_X5_seekCover_2 (G : Kg) (n l2 l3 : Int) (σ : Kmem) (Q : Int → Kmem → Prop) : Prop := Ex G WX M_X5_seekCover 1 0 0 2 [(0, vA G 82), (1, vA G n), (2, vI l2), (3, vI l3)] [] σ Q
abbrev E_X5_seekCover_53 (G : Kg) (l2 l3 l4 : Int) (σ : Kmem) (Q : Int → Kmem → Prop) : Prop := Ex G WX M_X5_seekCover 1 0 0 53 [(0, vA G 82), (2, vI l2), (3, vI l3), (4, vI l4)] [] σ Q
theorem S_X5_seekCover {G : Kg} {σ : Kmem} {Q : Int → Kmem → Prop} {n l2 : Int} (hn : kArX n 21 60) (h : E_X5_seekCover_2 G n l2 0 σ Q) : Run G WX M_X5_seekCover 1 0 0 [vA G 82, vA G n, vI l2] σ Q := by
  refine Run.of (by decide +kernel) (by show (3 : Nat) ≤ 5; decide) ?_
  show Ex G WX M_X5_seekCover 1 0 0 0 [(0, vA G 82), (1, vA G n), (2, vI l2)] [] σ Q
  refine R_iconst e_X5_seekCover_0.1 ?_
  refine R_istore_n (ls2 := [(3, vI 0), (0, vA G 82), (1, vA G n), (2, vI l2)]) e_X5_seekCover_0.2.1 (by decide) rfl ?_
  refine R_ls (ls2 := [(0, vA G 82), (1, vA G n), (2, vI l2), (3, vI 0)]) [1, 2, 3, 0] rfl ?_
  exact h
theorem S_X5_seekCover_2 {G : Kg} {σ : Kmem} {Q : Int → Kmem → Prop} {n l2 l3 : Int} (hn : kArX n 21 60) (h : (rI l3) ∧ (rI l2) ∧ ((l2 ≤ l3 → E_X5_seekCover_53 G l2 7 0 (kup σ 82 14 (-1)) Q) ∧ (l3 < l2 → (0 ≤ l3 ∧ l3 < 60) ∧ (0 ≤ σ n l3 ∧ σ n l3 ≤ 2147483647) ∧ (0 ≤ σ n l3 ∧ σ n l3 ≤ 2147483647) ∧ (0 ≤ (((σ n l3) / 10) * 9) + ((σ n l3) % 10) ∧ (((σ n l3) / 10) * 9) + ((σ n l3) % 10) < 63) ∧ (0 ≤ l3 ∧ l3 < 20) ∧ E_X5_seekCover_2 G n l2 (l3 + 1) (kup σ 87 l3 (σ 62 ((((σ n l3) / 10) * 9) + ((σ n l3) % 10)))) Q))) : E_X5_seekCover_2 G n l2 l3 σ Q := by
  refine R_iload_n e_X5_seekCover_0.2.2.1 3 rfl ?_
  refine R_iload_n e_X5_seekCover_0.2.2.2.1 2 rfl ?_
  obtain ⟨q1, h⟩ := h
  obtain ⟨q2, h⟩ := h
  refine R_icmp_ge 42 e_X5_seekCover_0.2.2.2.2.1 (by decide) q1 q2 (fun q => ?_) (fun q => ?_)
  · replace h := h.1 q
    refine R_aload_n e_X5_seekCover_2.2.2.2.2.2.1 0 rfl ?_
    refine R_iconst e_X5_seekCover_2.2.2.2.2.2.2.1 ?_
    refine R_putI 5 14 14 WX_ok e_X5_seekCover_2.2.2.2.2.2.2.2.1 f_X5_49 kx_82 rfl rfl rfl ?_
    refine R_bipush e_X5_seekCover_2.2.2.2.2.2.2.2.2.1 (by decide) ?_
    refine R_istore_n (ls2 := [(3, vI 7), (0, vA G 82), (1, vA G n), (2, vI l2)]) e_X5_seekCover_2.2.2.2.2.2.2.2.2.2 (by decide) rfl ?_
    refine R_iconst e_X5_seekCover_3.1 ?_
    refine R_istore (ls2 := [(4, vI 0), (3, vI 7), (0, vA G 82), (1, vA G n), (2, vI l2)]) e_X5_seekCover_3.2.1 (by decide) rfl ?_
    refine R_ls (ls2 := [(0, vA G 82), (2, vI l2), (3, vI 7), (4, vI 0)]) [2, 4, 1, 0] rfl ?_
    exact h
  · replace h := h.2 q
    refine R_aload_n e_X5_seekCover_0.2.2.2.2.2.1 1 rfl ?_
    refine R_iload_n e_X5_seekCover_0.2.2.2.2.2.2.1 3 rfl ?_
    obtain ⟨q3, h⟩ := h
    refine R_lald 60 e_X5_seekCover_0.2.2.2.2.2.2.2.1 (kLXa hn) q3 ?_
    refine R_l2i e_X5_seekCover_0.2.2.2.2.2.2.2.2.1 ?_
    refine R_istore (ls2 := [(4, vI (σ n l3)), (0, vA G 82), (1, vA G n), (2, vI l2), (3, vI l3)]) e_X5_seekCover_0.2.2.2.2.2.2.2.2.2 (by decide) rfl ?_
    refine R_aload_n e_X5_seekCover_1.1 1 rfl ?_
    refine R_getA 5 15 87 e_X5_seekCover_1.2.1 f_X5_52 kx_82 (fun _ _ => rfl) rx_82_15 (by decide) ?_
    refine R_iload_n e_X5_seekCover_1.2.2.1 4 rfl ?_
    refine R_aload_n e_X5_seekCover_1.2.2.2.1 1 rfl ?_
    refine R_getA 5 1 58 e_X5_seekCover_1.2.2.2.2.1 f_X5_68 kx_82 (fun _ _ => rfl) rx_82_1 (by decide) ?_
    refine R_iload e_X5_seekCover_1.2.2.2.2.2.1 0 rfl ?_
    refine R_bipush e_X5_seekCover_1.2.2.2.2.2.2.1 (by decide) ?_
    obtain ⟨q4, h⟩ := h
    refine R_irem e_X5_seekCover_1.2.2.2.2.2.2.2.1 q4 (by decide) ?_
    refine R_iload e_X5_seekCover_1.2.2.2.2.2.2.2.2.1 0 rfl ?_
    refine R_bipush e_X5_seekCover_1.2.2.2.2.2.2.2.2.2 (by decide) ?_
    obtain ⟨q5, h⟩ := h
    refine R_idiv e_X5_seekCover_2.1 q5 (by decide) ?_
    refine R_callV (mc := 0) (ms := 0) (mc' := 0) (ms' := 0) (M' := M_X8_shadersOf) (d' := 0) (as := [vI ((σ n l3) % 10), vI ((σ n l3) / 10)]) (st := [vI l3, vA G 87]) 8 2 e_X5_seekCover_2.2.1 (kCVof m_X8_shadersOf l_X5_133) rfl (by decide) kx_58 (by decide) (by decide) rfl rfl (by show (2 : Nat) ≤ 8; decide) ?_
    obtain ⟨q8, h⟩ := h
    refine S_X8_shadersOf ⟨q8, ?_⟩
    refine R_eqs (st2 := [vI (σ 62 ((((σ n l3) / 10) * 9) + ((σ n l3) % 10))), vI l3, vA G 87]) (σ2 := σ) rfl rfl ?_
    obtain ⟨q9, h⟩ := h
    refine R_iast 20 WX_ok e_X5_seekCover_2.2.2.1 kxa_87 q9 ?_
    refine R_iinc (ls2 := [(3, vI (l3 + 1)), (4, vI (σ n l3)), (0, vA G 82), (1, vA G n), (2, vI l2)]) e_X5_seekCover_2.2.2.2.1 4 rfl (by decide) rfl ?_
    refine R_goto 2 e_X5_seekCover_2.2.2.2.2.1 (by decide) ?_
    refine R_ls (ls2 := [(0, vA G 82), (1, vA G n), (2, vI l2), (3, vI (l3 + 1))]) [2, 3, 4, 0] rfl ?_
    exact h
theorem S_X5_seekCover_53 {G : Kg} {σ : Kmem} {Q : Int → Kmem → Prop} {n l2 l3 l4 : Int} (hn : kArX n 21 60) (h : (rI l4) ∧ ((64 ≤ l4 → (rI (σ 82 14)) ∧ ((σ 82 14 = -1 → Q 0 σ) ∧ (σ 82 14 ≠ -1 → Q 1 σ))) ∧ (l4 < 64 → Run G WX M_J6_bitCount_0f7a4 0 0 0 [vI l4] σ (fun r12 s13 => (rI r12) ∧ (rI l3) ∧ ((l3 ≤ r12 → E_X5_seekCover_53 G l2 l3 (l4 + 1) s13 Q) ∧ (r12 < l3 → Run G WX M_X5_isCovering 0 0 0 [vA G 82, vI l4, vI l2] s13 (fun r16 s17 => (rI r16) ∧ ((r16 = 0 → E_X5_seekCover_53 G l2 l3 (l4 + 1) s17 Q) ∧ (r16 ≠ 0 → Run G WX M_J6_bitCount_0f7a4 0 0 0 [vI l4] s17 (fun r19 s20 => E_X5_seekCover_53 G l2 r19 (l4 + 1) (kup s20 82 14 l4) Q)))))))))) : E_X5_seekCover_53 G l2 l3 l4 σ Q := by
  refine R_iload e_X5_seekCover_3.2.2.1 3 rfl ?_
  refine R_bipush e_X5_seekCover_3.2.2.2.1 (by decide) ?_
  obtain ⟨q10, h⟩ := h
  refine R_icmp_ge 97 e_X5_seekCover_3.2.2.2.2.1 (by decide) q10 (by decide) (fun q => ?_) (fun q => ?_)
  · replace h := h.1 q
    refine R_aload_n e_X5_seekCover_5.2.2.1 0 rfl ?_
    refine R_getI 5 14 14 e_X5_seekCover_5.2.2.2.1 f_X5_49 kx_82 (fun _ _ => rfl) rfl ?_
    refine R_iconst e_X5_seekCover_5.2.2.2.2.1 ?_
    obtain ⟨q11, h⟩ := h
    refine R_icmp_eq 109 e_X5_seekCover_5.2.2.2.2.2.1 (by decide) q11 (by decide) (fun q => ?_) (fun q => ?_)
    · replace h := h.1 q
      refine R_iconst e_X5_seekCover_5.2.2.2.2.2.2.2.2.1 ?_
      exact R_zreturn e_X5_seekCover_5.2.2.2.2.2.2.2.2.2 rfl (Or.inl rfl) h
    · replace h := h.2 q
      refine R_iconst e_X5_seekCover_5.2.2.2.2.2.2.1 ?_
      refine R_goto 110 e_X5_seekCover_5.2.2.2.2.2.2.2.1 (by decide) ?_
      exact R_zreturn e_X5_seekCover_5.2.2.2.2.2.2.2.2.2 rfl (Or.inr rfl) h
  · replace h := h.2 q
    refine R_iload e_X5_seekCover_3.2.2.2.2.2.1 3 rfl ?_
    refine R_callS (mc := 0) (ms := 0) (mc' := 0) (ms' := 0) (M' := M_J6_bitCount_0f7a4) (d' := 0) (as := [vI l4]) (st := []) 1 e_X5_seekCover_3.2.2.2.2.2.2.1 (kCSof m_J6_bitCount_0f7a4 l_X5_136) (by decide) (by decide) rfl rfl (by show (0 : Nat) ≤ 8; decide) ?_
    refine Run.mono h (fun r12 s13 h => ?_)
    refine R_eqs (st2 := [vI r12]) rfl rfl ?_
    refine R_iload_n e_X5_seekCover_3.2.2.2.2.2.2.2.1 2 rfl ?_
    obtain ⟨q14, h⟩ := h
    obtain ⟨q15, h⟩ := h
    refine R_icmp_ge 91 e_X5_seekCover_3.2.2.2.2.2.2.2.2.1 (by decide) q14 q15 (fun q => ?_) (fun q => ?_)
    · replace h := h.1 q
      refine R_iinc (ls2 := [(4, vI (l4 + 1)), (0, vA G 82), (2, vI l2), (3, vI l3)]) e_X5_seekCover_5.1 3 rfl (by decide) rfl ?_
      refine R_goto 53 e_X5_seekCover_5.2.1 (by decide) ?_
      refine R_ls (ls2 := [(0, vA G 82), (2, vI l2), (3, vI l3), (4, vI (l4 + 1))]) [1, 2, 3, 0] rfl ?_
      exact h
    · replace h := h.2 q
      refine R_aload_n e_X5_seekCover_3.2.2.2.2.2.2.2.2.2 0 rfl ?_
      refine R_iload e_X5_seekCover_4.1 3 rfl ?_
      refine R_iload_n e_X5_seekCover_4.2.1 1 rfl ?_
      refine R_callV (mc := 0) (ms := 0) (mc' := 0) (ms' := 0) (M' := M_X5_isCovering) (d' := 0) (as := [vI l4, vI l2]) (st := []) 5 2 e_X5_seekCover_4.2.2.1 (kCVof m_X5_isCovering l_X5_142) rfl (by decide) kx_82 (by decide) (by decide) rfl rfl (by show (0 : Nat) ≤ 8; decide) ?_
      refine Run.mono h (fun r16 s17 h => ?_)
      refine R_eqs (st2 := [vI r16]) rfl rfl ?_
      obtain ⟨q18, h⟩ := h
      refine R_if_eq 91 e_X5_seekCover_4.2.2.2.1 (by decide) q18  (fun q => ?_) (fun q => ?_)
      · replace h := h.1 q
        refine R_iinc (ls2 := [(4, vI (l4 + 1)), (0, vA G 82), (2, vI l2), (3, vI l3)]) e_X5_seekCover_5.1 3 rfl (by decide) rfl ?_
        refine R_goto 53 e_X5_seekCover_5.2.1 (by decide) ?_
        refine R_ls (ls2 := [(0, vA G 82), (2, vI l2), (3, vI l3), (4, vI (l4 + 1))]) [1, 2, 3, 0] rfl ?_
        exact h
      · replace h := h.2 q
        refine R_iload e_X5_seekCover_4.2.2.2.2.1 3 rfl ?_
        refine R_callS (mc := 0) (ms := 0) (mc' := 0) (ms' := 0) (M' := M_J6_bitCount_0f7a4) (d' := 0) (as := [vI l4]) (st := []) 1 e_X5_seekCover_4.2.2.2.2.2.1 (kCSof m_J6_bitCount_0f7a4 l_X5_136) (by decide) (by decide) rfl rfl (by show (0 : Nat) ≤ 8; decide) ?_
        refine Run.mono h (fun r19 s20 h => ?_)
        refine R_eqs (st2 := [vI r19]) rfl rfl ?_
        refine R_istore_n (ls2 := [(3, vI r19), (0, vA G 82), (2, vI l2), (4, vI l4)]) e_X5_seekCover_4.2.2.2.2.2.2.1 (by decide) rfl ?_
        refine R_aload_n e_X5_seekCover_4.2.2.2.2.2.2.2.1 1 rfl ?_
        refine R_iload e_X5_seekCover_4.2.2.2.2.2.2.2.2.1 3 rfl ?_
        refine R_putI 5 14 14 WX_ok e_X5_seekCover_4.2.2.2.2.2.2.2.2.2 f_X5_49 kx_82 rfl rfl rfl ?_
        refine R_iinc (ls2 := [(4, vI (l4 + 1)), (3, vI r19), (0, vA G 82), (2, vI l2)]) e_X5_seekCover_5.1 3 rfl (by decide) rfl ?_
        refine R_goto 53 e_X5_seekCover_5.2.1 (by decide) ?_
        refine R_ls (ls2 := [(0, vA G 82), (2, vI l2), (3, vI r19), (4, vI (l4 + 1))]) [2, 3, 1, 0] rfl ?_
        exact h
/-! KiteLand$Plans.offerField(III)V -/
theorem e_X5_offerField_0 : decode cX5_offerField 0 = .ok (.aload_n 0, 1) ∧ decode cX5_offerField 1 = .ok (.getfield 68, 3) ∧ decode cX5_offerField 4 = .ok (.iload_n 1, 1) ∧ decode cX5_offerField 5 = .ok (.iload_n 2, 1) ∧ decode cX5_offerField 6 = .ok (.invokevirtual 90, 3) ∧ decode cX5_offerField 9 = .ok (.istore 4, 2) ∧ decode cX5_offerField 11 = .ok (.iload 4, 2) ∧ decode cX5_offerField 13 = .ok (.iconst (-1), 1) ∧ decode cX5_offerField 14 = .ok (.if_icmp .ne 4, 3) ∧ decode cX5_offerField 17 = .ok (.return_, 1) := by decide +kernel
theorem e_X5_offerField_1 : decode cX5_offerField 18 = .ok (.iconst 0, 1) ∧ decode cX5_offerField 19 = .ok (.istore 5, 2) ∧ decode cX5_offerField 21 = .ok (.iconst 0, 1) ∧ decode cX5_offerField 22 = .ok (.istore 6, 2) ∧ decode cX5_offerField 24 = .ok (.iload 6, 2) ∧ decode cX5_offerField 26 = .ok (.aload_n 0, 1) ∧ decode cX5_offerField 27 = .ok (.getfield 64, 3) ∧ decode cX5_offerField 30 = .ok (.getfield 161, 3) ∧ decode cX5_offerField 33 = .ok (.if_icmp .ge 55, 3) ∧ decode cX5_offerField 36 = .ok (.aload_n 0, 1) := by decide +kernel
theorem e_X5_offerField_2 : decode cX5_offerField 37 = .ok (.getfield 64, 3) ∧ decode cX5_offerField 40 = .ok (.getfield 164, 3) ∧ decode cX5_offerField 43 = .ok (.iload 6, 2) ∧ decode cX5_offerField 45 = .ok (.aaload, 1) ∧ decode cX5_offerField 46 = .ok (.getfield 168, 3) ∧ decode cX5_offerField 49 = .ok (.iload 4, 2) ∧ decode cX5_offerField 51 = .ok (.if_icmp .ne 31, 3) ∧ decode cX5_offerField 54 = .ok (.aload_n 0, 1) ∧ decode cX5_offerField 55 = .ok (.getfield 64, 3) ∧ decode cX5_offerField 58 = .ok (.getfield 164, 3) := by decide +kernel
theorem e_X5_offerField_3 : decode cX5_offerField 61 = .ok (.iload 6, 2) ∧ decode cX5_offerField 63 = .ok (.aaload, 1) ∧ decode cX5_offerField 64 = .ok (.iload_n 1, 1) ∧ decode cX5_offerField 65 = .ok (.iload_n 2, 1) ∧ decode cX5_offerField 66 = .ok (.invokevirtual 173, 3) ∧ decode cX5_offerField 69 = .ok (.iload_n 3, 1) ∧ decode cX5_offerField 70 = .ok (.if_icmp .gt 12, 3) ∧ decode cX5_offerField 73 = .ok (.iload 5, 2) ∧ decode cX5_offerField 75 = .ok (.iconst 1, 1) ∧ decode cX5_offerField 76 = .ok (.iload 6, 2) := by decide +kernel
theorem e_X5_offerField_4 : decode cX5_offerField 78 = .ok (.ishl, 1) ∧ decode cX5_offerField 79 = .ok (.ior, 1) ∧ decode cX5_offerField 80 = .ok (.istore 5, 2) ∧ decode cX5_offerField 82 = .ok (.iinc 6 1, 3) ∧ decode cX5_offerField 85 = .ok (.goto (-61), 3) ∧ decode cX5_offerField 88 = .ok (.aload_n 0, 1) ∧ decode cX5_offerField 89 = .ok (.getfield 55, 3) ∧ decode cX5_offerField 92 = .ok (.arraylength, 1) ∧ decode cX5_offerField 93 = .ok (.iconst 1, 1) ∧ decode cX5_offerField 94 = .ok (.isub, 1) := by decide +kernel
theorem e_X5_offerField_5 : decode cX5_offerField 95 = .ok (.istore 6, 2) ∧ decode cX5_offerField 97 = .ok (.iload 6, 2) ∧ decode cX5_offerField 99 = .ok (.ifCond .lt 68, 3) ∧ decode cX5_offerField 102 = .ok (.iconst 0, 1) ∧ decode cX5_offerField 103 = .ok (.istore 7, 2) ∧ decode cX5_offerField 105 = .ok (.aload_n 0, 1) ∧ decode cX5_offerField 106 = .ok (.getfield 55, 3) ∧ decode cX5_offerField 109 = .ok (.iload 6, 2) ∧ decode cX5_offerField 111 = .ok (.baload, 1) ∧ decode cX5_offerField 112 = .ok (.ifCond .eq 49, 3) := by decide +kernel
theorem e_X5_offerField_6 : decode cX5_offerField 115 = .ok (.iload 7, 2) ∧ decode cX5_offerField 117 = .ok (.aload_n 0, 1) ∧ decode cX5_offerField 118 = .ok (.getfield 64, 3) ∧ decode cX5_offerField 121 = .ok (.getfield 161, 3) ∧ decode cX5_offerField 124 = .ok (.if_icmp .ge 37, 3) ∧ decode cX5_offerField 127 = .ok (.iload 5, 2) ∧ decode cX5_offerField 129 = .ok (.iload 6, 2) ∧ decode cX5_offerField 131 = .ok (.iconst (-1), 1) ∧ decode cX5_offerField 132 = .ok (.ixor, 1) ∧ decode cX5_offerField 133 = .ok (.iand, 1) := by decide +kernel
theorem e_X5_offerField_7 : decode cX5_offerField 134 = .ok (.iconst 1, 1) ∧ decode cX5_offerField 135 = .ok (.iload 7, 2) ∧ decode cX5_offerField 137 = .ok (.ishl, 1) ∧ decode cX5_offerField 138 = .ok (.iand, 1) ∧ decode cX5_offerField 139 = .ok (.ifCond .eq 16, 3) ∧ decode cX5_offerField 142 = .ok (.aload_n 0, 1) ∧ decode cX5_offerField 143 = .ok (.getfield 55, 3) ∧ decode cX5_offerField 146 = .ok (.iload 6, 2) ∧ decode cX5_offerField 148 = .ok (.iconst 1, 1) ∧ decode cX5_offerField 149 = .ok (.iload 7, 2) := by decide +kernel
theorem e_X5_offerField_8 : decode cX5_offerField 151 = .ok (.ishl, 1) ∧ decode cX5_offerField 152 = .ok (.ior, 1) ∧ decode cX5_offerField 153 = .ok (.iconst 1, 1) ∧ decode cX5_offerField 154 = .ok (.bastore, 1) ∧ decode cX5_offerField 155 = .ok (.iinc 7 1, 3) ∧ decode cX5_offerField 158 = .ok (.goto (-53), 3) ∧ decode cX5_offerField 161 = .ok (.iinc 6 (-1), 3) ∧ decode cX5_offerField 164 = .ok (.goto (-67), 3) ∧ decode cX5_offerField 167 = .ok (.return_, 1) := by decide +kernel
abbrev E_X5_offerField_24 (G : Kg) (l1 l2 l3 l4 l5 l6 : Int) (σ : Kmem) (Q : Int → Kmem → Prop) : Prop := Ex G WX M_X5_offerField 2 0 0 24 [(0, vA G 82), (1, vI l1), (2, vI l2), (3, vI l3), (4, vI l4), (5, vI l5), (6, vI l6)] [] σ Q
abbrev E_X5_offerField_97 (G : Kg) (l5 l6 : Int) (σ : Kmem) (Q : Int → Kmem → Prop) : Prop := Ex G WX M_X5_offerField 2 0 0 97 [(0, vA G 82), (5, vI l5), (6, vI l6)] [] σ Q
abbrev E_X5_offerField_105 (G : Kg) (l5 l6 l7 : Int) (σ : Kmem) (Q : Int → Kmem → Prop) : Prop := Ex G WX M_X5_offerField 2 0 0 105 [(0, vA G 82), (5, vI l5), (6, vI l6), (7, vI l7)] [] σ Q
theorem S_X5_offerField {G : Kg} {σ : Kmem} {Q : Int → Kmem → Prop} {l1 l2 l3 : Int}  (h : (0 ≤ (l2 * 9) + l1 ∧ (l2 * 9) + l1 < 63) ∧ (rI (σ 63 ((l2 * 9) + l1))) ∧ ((σ 63 ((l2 * 9) + l1) ≠ -1 → E_X5_offerField_24 G l1 l2 l3 (σ 63 ((l2 * 9) + l1)) 0 0 σ Q) ∧ (σ 63 ((l2 * 9) + l1) = -1 → Q 0 σ))) : Run G WX M_X5_offerField 2 0 0 [vA G 82, vI l1, vI l2, vI l3] σ Q := by
  refine Run.of (by decide +kernel) (by show (4 : Nat) ≤ 8; decide) ?_
  show Ex G WX M_X5_offerField 2 0 0 0 [(0, vA G 82), (1, vI l1), (2, vI l2), (3, vI l3)] [] σ Q
  refine R_aload_n e_X5_offerField_0.1 0 rfl ?_
  refine R_getA 5 1 58 e_X5_offerField_0.2.1 f_X5_68 kx_82 (fun _ _ => rfl) rx_82_1 (by decide) ?_
  refine R_iload_n e_X5_offerField_0.2.2.1 1 rfl ?_
  refine R_iload_n e_X5_offerField_0.2.2.2.1 2 rfl ?_
  refine R_callV (mc := 0) (ms := 0) (mc' := 0) (ms' := 0) (M' := M_X8_ownerOf) (d' := 0) (as := [vI l1, vI l2]) (st := []) 8 2 e_X5_offerField_0.2.2.2.2.1 (kCVof m_X8_ownerOf l_X5_90) rfl (by decide) kx_58 (by decide) (by decide) rfl rfl (by show (0 : Nat) ≤ 8; decide) ?_
  obtain ⟨q3, h⟩ := h
  refine S_X8_ownerOf ⟨q3, ?_⟩
  refine R_eqs (st2 := [vI (σ 63 ((l2 * 9) + l1))]) (σ2 := σ) rfl rfl ?_
  refine R_istore (ls2 := [(4, vI (σ 63 ((l2 * 9) + l1))), (0, vA G 82), (1, vI l1), (2, vI l2), (3, vI l3)]) e_X5_offerField_0.2.2.2.2.2.1 (by decide) rfl ?_
  refine R_iload e_X5_offerField_0.2.2.2.2.2.2.1 0 rfl ?_
  refine R_iconst e_X5_offerField_0.2.2.2.2.2.2.2.1 ?_
  obtain ⟨q4, h⟩ := h
  refine R_icmp_ne 18 e_X5_offerField_0.2.2.2.2.2.2.2.2.1 (by decide) q4 (by decide) (fun q => ?_) (fun q => ?_)
  · replace h := h.1 q
    refine R_iconst e_X5_offerField_1.1 ?_
    refine R_istore (ls2 := [(5, vI 0), (4, vI (σ 63 ((l2 * 9) + l1))), (0, vA G 82), (1, vI l1), (2, vI l2), (3, vI l3)]) e_X5_offerField_1.2.1 (by decide) rfl ?_
    refine R_iconst e_X5_offerField_1.2.2.1 ?_
    refine R_istore (ls2 := [(6, vI 0), (5, vI 0), (4, vI (σ 63 ((l2 * 9) + l1))), (0, vA G 82), (1, vI l1), (2, vI l2), (3, vI l3)]) e_X5_offerField_1.2.2.2.1 (by decide) rfl ?_
    refine R_ls (ls2 := [(0, vA G 82), (1, vI l1), (2, vI l2), (3, vI l3), (4, vI (σ 63 ((l2 * 9) + l1))), (5, vI 0), (6, vI 0)]) [3, 4, 5, 6, 2, 1, 0] rfl ?_
    exact h
  · replace h := h.2 q
    exact R_return e_X5_offerField_0.2.2.2.2.2.2.2.2.2 rfl h
theorem S_X5_offerField_24 {G : Kg} {σ : Kmem} {Q : Int → Kmem → Prop} {l1 l2 l3 l4 l5 l6 : Int}  (h : (rI l6) ∧ (rI (σ 31 7)) ∧ ((σ 31 7 ≤ l6 → E_X5_offerField_97 G l5 (64 - 1) σ Q) ∧ (l6 < σ 31 7 → (0 ≤ l6 ∧ l6 < 6) ∧ (rI (σ (31 + 20 + l6) 3)) ∧ (rI l4) ∧ ((σ (31 + 20 + l6) 3 ≠ l4 → E_X5_offerField_24 G l1 l2 l3 l4 l5 (l6 + 1) σ Q) ∧ (σ (31 + 20 + l6) 3 = l4 → (0 ≤ l6 ∧ l6 < 6) ∧ (rI ((l1 - (σ (31 + 20 + l6) 1))) ∧ (l1 - (σ (31 + 20 + l6) 1)) ≠ -2147483648) ∧ (rI ((l2 - (σ (31 + 20 + l6) 2))) ∧ (l2 - (σ (31 + 20 + l6) 2)) ≠ -2147483648) ∧ (rI ((kabs ((l1 - (σ (31 + 20 + l6) 1)))) + (kabs ((l2 - (σ (31 + 20 + l6) 2)))))) ∧ (rI l3) ∧ ((l3 < (kabs ((l1 - (σ (31 + 20 + l6) 1)))) + (kabs ((l2 - (σ (31 + 20 + l6) 2)))) → E_X5_offerField_24 G l1 l2 l3 l4 l5 (l6 + 1) σ Q) ∧ ((kabs ((l1 - (σ (31 + 20 + l6) 1)))) + (kabs ((l2 - (σ (31 + 20 + l6) 2)))) ≤ l3 → E_X5_offerField_24 G l1 l2 l3 l4 (kor l5 (kshl 1 l6)) (l6 + 1) σ Q))))))) : E_X5_offerField_24 G l1 l2 l3 l4 l5 l6 σ Q := by
  refine R_iload e_X5_offerField_1.2.2.2.2.1 6 rfl ?_
  refine R_aload_n e_X5_offerField_1.2.2.2.2.2.1 0 rfl ?_
  refine R_getA 5 0 31 e_X5_offerField_1.2.2.2.2.2.2.1 f_X5_64 kx_82 (fun _ _ => rfl) rx_82_0 (by decide) ?_
  refine R_getI 0 7 7 e_X5_offerField_1.2.2.2.2.2.2.2.1 f_X5_161 (kC_self isC_31) (fun _ _ => rfl) rfl ?_
  obtain ⟨q5, h⟩ := h
  obtain ⟨q6, h⟩ := h
  refine R_icmp_ge 88 e_X5_offerField_1.2.2.2.2.2.2.2.2.1 (by decide) q5 q6 (fun q => ?_) (fun q => ?_)
  · replace h := h.1 q
    refine R_aload_n e_X5_offerField_4.2.2.2.2.2.1 0 rfl ?_
    refine R_getA 5 16 88 e_X5_offerField_4.2.2.2.2.2.2.1 f_X5_55 kx_82 (fun _ _ => rfl) rx_82_16 (by decide) ?_
    refine R_alen 23 64 64 e_X5_offerField_4.2.2.2.2.2.2.2.1 kxa_88 (by decide) rfl ?_
    refine R_iconst e_X5_offerField_4.2.2.2.2.2.2.2.2.1 ?_
    refine R_isub e_X5_offerField_4.2.2.2.2.2.2.2.2.2 ?_
    refine R_istore (ls2 := [(6, vI (64 - 1)), (0, vA G 82), (1, vI l1), (2, vI l2), (3, vI l3), (4, vI l4), (5, vI l5)]) e_X5_offerField_5.1 (by decide) rfl ?_
    refine R_ls (ls2 := [(0, vA G 82), (5, vI l5), (6, vI (64 - 1))]) [1, 6, 0] rfl ?_
    exact h
  · replace h := h.2 q
    refine R_aload_n e_X5_offerField_1.2.2.2.2.2.2.2.2.2 0 rfl ?_
    refine R_getA 5 0 31 e_X5_offerField_2.1 f_X5_64 kx_82 (fun _ _ => rfl) rx_82_0 (by decide) ?_
    refine R_getA 0 12 (31 + 5) e_X5_offerField_2.2.1 f_X5_164 (kC_self isC_31) (fun _ _ => rfl) (kC_r12 isC_31) (kC_n5 isC_31) ?_
    refine R_iload e_X5_offerField_2.2.2.1 6 rfl ?_
    obtain ⟨q7, h⟩ := h
    refine R_aald 29 6 (31 + 20 + l6) e_X5_offerField_2.2.2.2.1 (by decide) (kC_tens isC_31) q7 (kC_tenAt isC_31 q7) (kC_tenN isC_31 q7) ?_
    refine R_getI 9 3 3 e_X5_offerField_2.2.2.2.2.1 f_X5_168 (kC_ten isC_31 q7) (fun _ _ => rfl) rfl ?_
    refine R_iload e_X5_offerField_2.2.2.2.2.2.1 4 rfl ?_
    obtain ⟨q8, h⟩ := h
    obtain ⟨q9, h⟩ := h
    refine R_icmp_ne 82 e_X5_offerField_2.2.2.2.2.2.2.1 (by decide) q8 q9 (fun q => ?_) (fun q => ?_)
    · replace h := h.1 q
      refine R_iinc (ls2 := [(6, vI (l6 + 1)), (0, vA G 82), (1, vI l1), (2, vI l2), (3, vI l3), (4, vI l4), (5, vI l5)]) e_X5_offerField_4.2.2.2.1 6 rfl (by decide) rfl ?_
      refine R_goto 24 e_X5_offerField_4.2.2.2.2.1 (by decide) ?_
      refine R_ls (ls2 := [(0, vA G 82), (1, vI l1), (2, vI l2), (3, vI l3), (4, vI l4), (5, vI l5), (6, vI (l6 + 1))]) [1, 2, 3, 4, 5, 6, 0] rfl ?_
      exact h
    · replace h := h.2 q
      refine R_aload_n e_X5_offerField_2.2.2.2.2.2.2.2.1 0 rfl ?_
      refine R_getA 5 0 31 e_X5_offerField_2.2.2.2.2.2.2.2.2.1 f_X5_64 kx_82 (fun _ _ => rfl) rx_82_0 (by decide) ?_
      refine R_getA 0 12 (31 + 5) e_X5_offerField_2.2.2.2.2.2.2.2.2.2 f_X5_164 (kC_self isC_31) (fun _ _ => rfl) (kC_r12 isC_31) (kC_n5 isC_31) ?_
      refine R_iload e_X5_offerField_3.1 6 rfl ?_
      obtain ⟨q10, h⟩ := h
      refine R_aald 29 6 (31 + 20 + l6) e_X5_offerField_3.2.1 (by decide) (kC_tens isC_31) q10 (kC_tenAt isC_31 q10) (kC_tenN isC_31 q10) ?_
      refine R_iload_n e_X5_offerField_3.2.2.1 1 rfl ?_
      refine R_iload_n e_X5_offerField_3.2.2.2.1 2 rfl ?_
      refine R_callV (mc := 0) (ms := 0) (mc' := 0) (ms' := 0) (M' := M_X9_stepsTo) (d' := 1) (as := [vI l1, vI l2]) (st := []) 9 2 e_X5_offerField_3.2.2.2.2.1 (kCVof m_X9_stepsTo l_X5_173) rfl (by decide) (kC_ten isC_31 q10) (by decide) (by decide) rfl rfl (by show (0 : Nat) ≤ 8; decide) ?_
      obtain ⟨q15, h⟩ := h
      obtain ⟨q18, h⟩ := h
      refine S_X9_stepsTo (kC_ten (σ := fun _ _ => 0) isC_31 q10) ⟨q15, q18, ?_⟩
      refine R_eqs (st2 := [vI ((kabs ((l1 - (σ (31 + 20 + l6) 1)))) + (kabs ((l2 - (σ (31 + 20 + l6) 2)))))]) (σ2 := σ) rfl rfl ?_
      refine R_iload_n e_X5_offerField_3.2.2.2.2.2.1 3 rfl ?_
      obtain ⟨q19, h⟩ := h
      obtain ⟨q20, h⟩ := h
      refine R_icmp_gt 82 e_X5_offerField_3.2.2.2.2.2.2.1 (by decide) q19 q20 (fun q => ?_) (fun q => ?_)
      · replace h := h.1 q
        refine R_iinc (ls2 := [(6, vI (l6 + 1)), (0, vA G 82), (1, vI l1), (2, vI l2), (3, vI l3), (4, vI l4), (5, vI l5)]) e_X5_offerField_4.2.2.2.1 6 rfl (by decide) rfl ?_
        refine R_goto 24 e_X5_offerField_4.2.2.2.2.1 (by decide) ?_
        refine R_ls (ls2 := [(0, vA G 82), (1, vI l1), (2, vI l2), (3, vI l3), (4, vI l4), (5, vI l5), (6, vI (l6 + 1))]) [1, 2, 3, 4, 5, 6, 0] rfl ?_
        exact h
      · replace h := h.2 q
        refine R_iload e_X5_offerField_3.2.2.2.2.2.2.2.1 5 rfl ?_
        refine R_iconst e_X5_offerField_3.2.2.2.2.2.2.2.2.1 ?_
        refine R_iload e_X5_offerField_3.2.2.2.2.2.2.2.2.2 6 rfl ?_
        refine R_ishl e_X5_offerField_4.1 ?_
        refine R_ior e_X5_offerField_4.2.1 ?_
        refine R_istore (ls2 := [(5, vI (kor l5 (kshl 1 l6))), (0, vA G 82), (1, vI l1), (2, vI l2), (3, vI l3), (4, vI l4), (6, vI l6)]) e_X5_offerField_4.2.2.1 (by decide) rfl ?_
        refine R_iinc (ls2 := [(6, vI (l6 + 1)), (5, vI (kor l5 (kshl 1 l6))), (0, vA G 82), (1, vI l1), (2, vI l2), (3, vI l3), (4, vI l4)]) e_X5_offerField_4.2.2.2.1 6 rfl (by decide) rfl ?_
        refine R_goto 24 e_X5_offerField_4.2.2.2.2.1 (by decide) ?_
        refine R_ls (ls2 := [(0, vA G 82), (1, vI l1), (2, vI l2), (3, vI l3), (4, vI l4), (5, vI (kor l5 (kshl 1 l6))), (6, vI (l6 + 1))]) [2, 3, 4, 5, 6, 1, 0] rfl ?_
        exact h
theorem S_X5_offerField_97 {G : Kg} {σ : Kmem} {Q : Int → Kmem → Prop} {l1 l2 l3 l5 l6 : Int}  (h : (rI l6) ∧ ((l6 < 0 → Q 0 σ) ∧ (0 ≤ l6 → E_X5_offerField_105 G l5 l6 0 σ Q))) : E_X5_offerField_97 G l5 l6 σ Q := by
  refine R_iload e_X5_offerField_5.2.1 2 rfl ?_
  obtain ⟨q21, h⟩ := h
  refine R_if_lt 167 e_X5_offerField_5.2.2.1 (by decide) q21  (fun q => ?_) (fun q => ?_)
  · replace h := h.1 q
    exact R_return e_X5_offerField_8.2.2.2.2.2.2.2.2 rfl h
  · replace h := h.2 q
    refine R_iconst e_X5_offerField_5.2.2.2.1 ?_
    refine R_istore (ls2 := [(7, vI 0), (0, vA G 82), (5, vI l5), (6, vI l6)]) e_X5_offerField_5.2.2.2.2.1 (by decide) rfl ?_
    refine R_ls (ls2 := [(0, vA G 82), (5, vI l5), (6, vI l6), (7, vI 0)]) [1, 2, 3, 0] rfl ?_
    exact h
theorem S_X5_offerField_105 {G : Kg} {σ : Kmem} {Q : Int → Kmem → Prop} {l1 l2 l3 l5 l6 l7 : Int}  (h : (0 ≤ l6 ∧ l6 < 64) ∧ (rI (σ 88 l6)) ∧ ((σ 88 l6 = 0 → E_X5_offerField_97 G l5 (l6 + (-1)) σ Q) ∧ (σ 88 l6 ≠ 0 → (rI l7) ∧ (rI (σ 31 7)) ∧ ((σ 31 7 ≤ l7 → E_X5_offerField_97 G l5 (l6 + (-1)) σ Q) ∧ (l7 < σ 31 7 → (rI (kand (kand l5 (kxor l6 (-1))) (kshl 1 l7))) ∧ ((kand (kand l5 (kxor l6 (-1))) (kshl 1 l7) = 0 → E_X5_offerField_105 G l5 l6 (l7 + 1) σ Q) ∧ (kand (kand l5 (kxor l6 (-1))) (kshl 1 l7) ≠ 0 → (0 ≤ kor l6 (kshl 1 l7) ∧ kor l6 (kshl 1 l7) < 64) ∧ E_X5_offerField_105 G l5 l6 (l7 + 1) (kup σ 88 (kor l6 (kshl 1 l7)) 1) Q))))))) : E_X5_offerField_105 G l5 l6 l7 σ Q := by
  refine R_aload_n e_X5_offerField_5.2.2.2.2.2.1 0 rfl ?_
  refine R_getA 5 16 88 e_X5_offerField_5.2.2.2.2.2.2.1 f_X5_55 kx_82 (fun _ _ => rfl) rx_82_16 (by decide) ?_
  refine R_iload e_X5_offerField_5.2.2.2.2.2.2.2.1 2 rfl ?_
  obtain ⟨q22, h⟩ := h
  refine R_zald 64 e_X5_offerField_5.2.2.2.2.2.2.2.2.1 kxa_88 q22 ?_
  obtain ⟨q23, h⟩ := h
  refine R_if_eq 161 e_X5_offerField_5.2.2.2.2.2.2.2.2.2 (by decide) q23  (fun q => ?_) (fun q => ?_)
  · replace h := h.1 q
    refine R_iinc (ls2 := [(6, vI (l6 + (-1))), (0, vA G 82), (5, vI l5), (7, vI l7)]) e_X5_offerField_8.2.2.2.2.2.2.1 2 rfl (by decide) rfl ?_
    refine R_goto 97 e_X5_offerField_8.2.2.2.2.2.2.2.1 (by decide) ?_
    refine R_ls (ls2 := [(0, vA G 82), (5, vI l5), (6, vI (l6 + (-1)))]) [1, 2, 0] rfl ?_
    exact h
  · replace h := h.2 q
    refine R_iload e_X5_offerField_6.1 3 rfl ?_
    refine R_aload_n e_X5_offerField_6.2.1 0 rfl ?_
    refine R_getA 5 0 31 e_X5_offerField_6.2.2.1 f_X5_64 kx_82 (fun _ _ => rfl) rx_82_0 (by decide) ?_
    refine R_getI 0 7 7 e_X5_offerField_6.2.2.2.1 f_X5_161 (kC_self isC_31) (fun _ _ => rfl) rfl ?_
    obtain ⟨q24, h⟩ := h
    obtain ⟨q25, h⟩ := h
    refine R_icmp_ge 161 e_X5_offerField_6.2.2.2.2.1 (by decide) q24 q25 (fun q => ?_) (fun q => ?_)
    · replace h := h.1 q
      refine R_iinc (ls2 := [(6, vI (l6 + (-1))), (0, vA G 82), (5, vI l5), (7, vI l7)]) e_X5_offerField_8.2.2.2.2.2.2.1 2 rfl (by decide) rfl ?_
      refine R_goto 97 e_X5_offerField_8.2.2.2.2.2.2.2.1 (by decide) ?_
      refine R_ls (ls2 := [(0, vA G 82), (5, vI l5), (6, vI (l6 + (-1)))]) [1, 2, 0] rfl ?_
      exact h
    · replace h := h.2 q
      refine R_iload e_X5_offerField_6.2.2.2.2.2.1 1 rfl ?_
      refine R_iload e_X5_offerField_6.2.2.2.2.2.2.1 2 rfl ?_
      refine R_iconst e_X5_offerField_6.2.2.2.2.2.2.2.1 ?_
      refine R_ixor e_X5_offerField_6.2.2.2.2.2.2.2.2.1 ?_
      refine R_iand e_X5_offerField_6.2.2.2.2.2.2.2.2.2 ?_
      refine R_iconst e_X5_offerField_7.1 ?_
      refine R_iload e_X5_offerField_7.2.1 3 rfl ?_
      refine R_ishl e_X5_offerField_7.2.2.1 ?_
      refine R_iand e_X5_offerField_7.2.2.2.1 ?_
      obtain ⟨q26, h⟩ := h
      refine R_if_eq 155 e_X5_offerField_7.2.2.2.2.1 (by decide) q26  (fun q => ?_) (fun q => ?_)
      · replace h := h.1 q
        refine R_iinc (ls2 := [(7, vI (l7 + 1)), (0, vA G 82), (5, vI l5), (6, vI l6)]) e_X5_offerField_8.2.2.2.2.1 3 rfl (by decide) rfl ?_
        refine R_goto 105 e_X5_offerField_8.2.2.2.2.2.1 (by decide) ?_
        refine R_ls (ls2 := [(0, vA G 82), (5, vI l5), (6, vI l6), (7, vI (l7 + 1))]) [1, 2, 3, 0] rfl ?_
        exact h
      · replace h := h.2 q
        refine R_aload_n e_X5_offerField_7.2.2.2.2.2.1 0 rfl ?_
        refine R_getA 5 16 88 e_X5_offerField_7.2.2.2.2.2.2.1 f_X5_55 kx_82 (fun _ _ => rfl) rx_82_16 (by decide) ?_
        refine R_iload e_X5_offerField_7.2.2.2.2.2.2.2.1 2 rfl ?_
        refine R_iconst e_X5_offerField_7.2.2.2.2.2.2.2.2.1 ?_
        refine R_iload e_X5_offerField_7.2.2.2.2.2.2.2.2.2 3 rfl ?_
        refine R_ishl e_X5_offerField_8.1 ?_
        refine R_ior e_X5_offerField_8.2.1 ?_
        refine R_iconst e_X5_offerField_8.2.2.1 ?_
        obtain ⟨q27, h⟩ := h
        refine R_zast 64 WX_ok e_X5_offerField_8.2.2.2.1 kxa_88 q27 (Or.inr rfl) ?_
        refine R_iinc (ls2 := [(7, vI (l7 + 1)), (0, vA G 82), (5, vI l5), (6, vI l6)]) e_X5_offerField_8.2.2.2.2.1 3 rfl (by decide) rfl ?_
        refine R_goto 105 e_X5_offerField_8.2.2.2.2.2.1 (by decide) ?_
        refine R_ls (ls2 := [(0, vA G 82), (5, vI l5), (6, vI l6), (7, vI (l7 + 1))]) [1, 2, 3, 0] rfl ?_
        exact h
/-! KiteLand$Plans.mostSettled(I)I -/
theorem e_X5_mostSettled_0 : decode cX5_mostSettled 0 = .ok (.aload_n 0, 1) ∧ decode cX5_mostSettled 1 = .ok (.getfield 68, 3) ∧ decode cX5_mostSettled 4 = .ok (.aload_n 0, 1) ∧ decode cX5_mostSettled 5 = .ok (.getfield 64, 3) ∧ decode cX5_mostSettled 8 = .ok (.aload_n 0, 1) ∧ decode cX5_mostSettled 9 = .ok (.getfield 64, 3) ∧ decode cX5_mostSettled 12 = .ok (.invokevirtual 145, 3) ∧ decode cX5_mostSettled 15 = .ok (.invokevirtual 148, 3) ∧ decode cX5_mostSettled 18 = .ok (.iconst 0, 1) ∧ decode cX5_mostSettled 19 = .ok (.istore_n 2, 1) := by decide +kernel
theorem e_X5_mostSettled_1 : decode cX5_mostSettled 20 = .ok (.iload_n 2, 1) ∧ decode cX5_mostSettled 21 = .ok (.aload_n 0, 1) ∧ decode cX5_mostSettled 22 = .ok (.getfield 55, 3) ∧ decode cX5_mostSettled 25 = .ok (.arraylength, 1) ∧ decode cX5_mostSettled 26 = .ok (.if_icmp .ge 24, 3) ∧ decode cX5_mostSettled 29 = .ok (.aload_n 0, 1) ∧ decode cX5_mostSettled 30 = .ok (.getfield 55, 3) ∧ decode cX5_mostSettled 33 = .ok (.iload_n 2, 1) ∧ decode cX5_mostSettled 34 = .ok (.iload_n 2, 1) ∧ decode cX5_mostSettled 35 = .ok (.ifCond .ne 7, 3) := by decide +kernel
theorem e_X5_mostSettled_2 : decode cX5_mostSettled 38 = .ok (.iconst 1, 1) ∧ decode cX5_mostSettled 39 = .ok (.goto 4, 3) ∧ decode cX5_mostSettled 42 = .ok (.iconst 0, 1) ∧ decode cX5_mostSettled 43 = .ok (.bastore, 1) ∧ decode cX5_mostSettled 44 = .ok (.iinc 2 1, 3) ∧ decode cX5_mostSettled 47 = .ok (.goto (-27), 3) ∧ decode cX5_mostSettled 50 = .ok (.iconst 0, 1) ∧ decode cX5_mostSettled 51 = .ok (.istore_n 2, 1) ∧ decode cX5_mostSettled 52 = .ok (.iload_n 2, 1) ∧ decode cX5_mostSettled 53 = .ok (.aload_n 0, 1) := by decide +kernel
theorem e_X5_mostSettled_3 : decode cX5_mostSettled 54 = .ok (.getfield 64, 3) ∧ decode cX5_mostSettled 57 = .ok (.getfield 84, 3) ∧ decode cX5_mostSettled 60 = .ok (.if_icmp .ge 35, 3) ∧ decode cX5_mostSettled 63 = .ok (.iconst 0, 1) ∧ decode cX5_mostSettled 64 = .ok (.istore_n 3, 1) ∧ decode cX5_mostSettled 65 = .ok (.iload_n 3, 1) ∧ decode cX5_mostSettled 66 = .ok (.aload_n 0, 1) ∧ decode cX5_mostSettled 67 = .ok (.getfield 64, 3) ∧ decode cX5_mostSettled 70 = .ok (.getfield 87, 3) ∧ decode cX5_mostSettled 73 = .ok (.if_icmp .ge 16, 3) := by decide +kernel
theorem e_X5_mostSettled_4 : decode cX5_mostSettled 76 = .ok (.aload_n 0, 1) ∧ decode cX5_mostSettled 77 = .ok (.iload_n 3, 1) ∧ decode cX5_mostSettled 78 = .ok (.iload_n 2, 1) ∧ decode cX5_mostSettled 79 = .ok (.iload_n 1, 1) ∧ decode cX5_mostSettled 80 = .ok (.invokevirtual 152, 3) ∧ decode cX5_mostSettled 83 = .ok (.iinc 3 1, 3) ∧ decode cX5_mostSettled 86 = .ok (.goto (-21), 3) ∧ decode cX5_mostSettled 89 = .ok (.iinc 2 1, 3) ∧ decode cX5_mostSettled 92 = .ok (.goto (-40), 3) ∧ decode cX5_mostSettled 95 = .ok (.iconst 0, 1) := by decide +kernel
theorem e_X5_mostSettled_5 : decode cX5_mostSettled 96 = .ok (.istore_n 2, 1) ∧ decode cX5_mostSettled 97 = .ok (.iconst 0, 1) ∧ decode cX5_mostSettled 98 = .ok (.istore_n 3, 1) ∧ decode cX5_mostSettled 99 = .ok (.iload_n 3, 1) ∧ decode cX5_mostSettled 100 = .ok (.aload_n 0, 1) ∧ decode cX5_mostSettled 101 = .ok (.getfield 55, 3) ∧ decode cX5_mostSettled 104 = .ok (.arraylength, 1) ∧ decode cX5_mostSettled 105 = .ok (.if_icmp .ge 27, 3) ∧ decode cX5_mostSettled 108 = .ok (.aload_n 0, 1) ∧ decode cX5_mostSettled 109 = .ok (.getfield 55, 3) := by decide +kernel
theorem e_X5_mostSettled_6 : decode cX5_mostSettled 112 = .ok (.iload_n 3, 1) ∧ decode cX5_mostSettled 113 = .ok (.baload, 1) ∧ decode cX5_mostSettled 114 = .ok (.ifCond .eq 12, 3) ∧ decode cX5_mostSettled 117 = .ok (.iload_n 2, 1) ∧ decode cX5_mostSettled 118 = .ok (.iload_n 3, 1) ∧ decode cX5_mostSettled 119 = .ok (.invokestatic 136, 3) ∧ decode cX5_mostSettled 122 = .ok (.invokestatic 156, 3) ∧ decode cX5_mostSettled 125 = .ok (.istore_n 2, 1) ∧ decode cX5_mostSettled 126 = .ok (.iinc 3 1, 3) ∧ decode cX5_mostSettled 129 = .ok (.goto (-30), 3) := by decide +kernel
theorem e_X5_mostSettled_7 : decode cX5_mostSettled 132 = .ok (.iload_n 2, 1) ∧ decode cX5_mostSettled 133 = .ok (.ireturn, 1) := by decide +kernel
abbrev E_X5_mostSettled_20 (G : Kg) (l1 l2 : Int) (σ : Kmem) (Q : Int → Kmem → Prop) : Prop := Ex G WX M_X5_mostSettled 4 0 0 20 [(0, vA G 82), (1, vI l1), (2, vI l2)] [] σ Q
abbrev E_X5_mostSettled_52 (G : Kg) (l1 l2 : Int) (σ : Kmem) (Q : Int → Kmem → Prop) : Prop := Ex G WX M_X5_mostSettled 4 0 0 52 [(0, vA G 82), (1, vI l1), (2, vI l2)] [] σ Q
abbrev E_X5_mostSettled_65 (G : Kg) (l1 l2 l3 : Int) (σ : Kmem) (Q : Int → Kmem → Prop) : Prop := Ex G WX M_X5_mostSettled 4 0 0 65 [(0, vA G 82), (1, vI l1), (2, vI l2), (3, vI l3)] [] σ Q
abbrev E_X5_mostSettled_99 (G : Kg) (l2 l3 : Int) (σ : Kmem) (Q : Int → Kmem → Prop) : Prop := Ex G WX M_X5_mostSettled 4 0 0 99 [(0, vA G 82), (2, vI l2), (3, vI l3)] [] σ Q
theorem S_X5_mostSettled {G : Kg} {σ : Kmem} {Q : Int → Kmem → Prop} {l1 : Int}  (h : (0 ≤ σ 31 4 ∧ σ 31 4 ≤ 2147483647) ∧ Run G WX M_X8_look 3 0 0 [vA G 58, vA G 31, vI ((σ 31 4) % 12)] σ (fun r4 s5 => E_X5_mostSettled_20 G l1 0 s5 Q)) : Run G WX M_X5_mostSettled 4 0 0 [vA G 82, vI l1] σ Q := by
  refine Run.of (by decide +kernel) (by show (2 : Nat) ≤ 4; decide) ?_
  show Ex G WX M_X5_mostSettled 4 0 0 0 [(0, vA G 82), (1, vI l1)] [] σ Q
  refine R_aload_n e_X5_mostSettled_0.1 0 rfl ?_
  refine R_getA 5 1 58 e_X5_mostSettled_0.2.1 f_X5_68 kx_82 (fun _ _ => rfl) rx_82_1 (by decide) ?_
  refine R_aload_n e_X5_mostSettled_0.2.2.1 0 rfl ?_
  refine R_getA 5 0 31 e_X5_mostSettled_0.2.2.2.1 f_X5_64 kx_82 (fun _ _ => rfl) rx_82_0 (by decide) ?_
  refine R_aload_n e_X5_mostSettled_0.2.2.2.2.1 0 rfl ?_
  refine R_getA 5 0 31 e_X5_mostSettled_0.2.2.2.2.2.1 f_X5_64 kx_82 (fun _ _ => rfl) rx_82_0 (by decide) ?_
  refine R_callV (mc := 0) (ms := 0) (mc' := 0) (ms' := 0) (M' := M_X0_hourOfDay) (d' := 0) (as := []) (st := [vA G 31, vA G 58]) 0 0 e_X5_mostSettled_0.2.2.2.2.2.2.1 (kCVof m_X0_hourOfDay l_X5_145) rfl (by decide) (kC_self isC_31) (by decide) (by decide) rfl rfl (by show (2 : Nat) ≤ 8; decide) ?_
  obtain ⟨q3, h⟩ := h
  refine S_X0_hourOfDay isC_31 ⟨q3, ?_⟩
  refine R_eqs (st2 := [vI ((σ 31 4) % 12), vA G 31, vA G 58]) (σ2 := σ) rfl rfl ?_
  refine R_callV (mc := 0) (ms := 0) (mc' := 0) (ms' := 0) (M' := M_X8_look) (d' := 3) (as := [vA G 31, vI ((σ 31 4) % 12)]) (st := []) 8 2 e_X5_mostSettled_0.2.2.2.2.2.2.2.1 (kCVof m_X8_look l_X5_148) rfl (by decide) kx_58 (by decide) (by decide) rfl rfl (by show (0 : Nat) ≤ 8; decide) ?_
  refine Run.mono h (fun r4 s5 h => ?_)
  refine R_eqs (st2 := []) rfl rfl ?_
  refine R_iconst e_X5_mostSettled_0.2.2.2.2.2.2.2.2.1 ?_
  refine R_istore_n (ls2 := [(2, vI 0), (0, vA G 82), (1, vI l1)]) e_X5_mostSettled_0.2.2.2.2.2.2.2.2.2 (by decide) rfl ?_
  refine R_ls (ls2 := [(0, vA G 82), (1, vI l1), (2, vI 0)]) [1, 2, 0] rfl ?_
  exact h
theorem S_X5_mostSettled_20 {G : Kg} {σ : Kmem} {Q : Int → Kmem → Prop} {l1 l2 : Int}  (h : (rI l2) ∧ ((64 ≤ l2 → E_X5_mostSettled_52 G l1 0 σ Q) ∧ (l2 < 64 → ((l2 ≠ 0 → (0 ≤ l2 ∧ l2 < 64) ∧ E_X5_mostSettled_20 G l1 (l2 + 1) (kup σ 88 l2 0) Q) ∧ (l2 = 0 → (0 ≤ l2 ∧ l2 < 64) ∧ E_X5_mostSettled_20 G l1 (l2 + 1) (kup σ 88 l2 1) Q))))) : E_X5_mostSettled_20 G l1 l2 σ Q := by
  refine R_iload_n e_X5_mostSettled_1.1 2 rfl ?_
  refine R_aload_n e_X5_mostSettled_1.2.1 0 rfl ?_
  refine R_getA 5 16 88 e_X5_mostSettled_1.2.2.1 f_X5_55 kx_82 (fun _ _ => rfl) rx_82_16 (by decide) ?_
  refine R_alen 23 64 64 e_X5_mostSettled_1.2.2.2.1 kxa_88 (by decide) rfl ?_
  obtain ⟨q6, h⟩ := h
  refine R_icmp_ge 50 e_X5_mostSettled_1.2.2.2.2.1 (by decide) q6 (by decide) (fun q => ?_) (fun q => ?_)
  · replace h := h.1 q
    refine R_iconst e_X5_mostSettled_2.2.2.2.2.2.2.1 ?_
    refine R_istore_n (ls2 := [(2, vI 0), (0, vA G 82), (1, vI l1)]) e_X5_mostSettled_2.2.2.2.2.2.2.2.1 (by decide) rfl ?_
    refine R_ls (ls2 := [(0, vA G 82), (1, vI l1), (2, vI 0)]) [1, 2, 0] rfl ?_
    exact h
  · replace h := h.2 q
    refine R_aload_n e_X5_mostSettled_1.2.2.2.2.2.1 0 rfl ?_
    refine R_getA 5 16 88 e_X5_mostSettled_1.2.2.2.2.2.2.1 f_X5_55 kx_82 (fun _ _ => rfl) rx_82_16 (by decide) ?_
    refine R_iload_n e_X5_mostSettled_1.2.2.2.2.2.2.2.1 2 rfl ?_
    refine R_iload_n e_X5_mostSettled_1.2.2.2.2.2.2.2.2.1 2 rfl ?_
    refine R_if_ne 42 e_X5_mostSettled_1.2.2.2.2.2.2.2.2.2 (by decide) q6  (fun q => ?_) (fun q => ?_)
    · replace h := h.1 q
      refine R_iconst e_X5_mostSettled_2.2.2.1 ?_
      obtain ⟨q7, h⟩ := h
      refine R_zast 64 WX_ok e_X5_mostSettled_2.2.2.2.1 kxa_88 q7 (Or.inl rfl) ?_
      refine R_iinc (ls2 := [(2, vI (l2 + 1)), (0, vA G 82), (1, vI l1)]) e_X5_mostSettled_2.2.2.2.2.1 2 rfl (by decide) rfl ?_
      refine R_goto 20 e_X5_mostSettled_2.2.2.2.2.2.1 (by decide) ?_
      refine R_ls (ls2 := [(0, vA G 82), (1, vI l1), (2, vI (l2 + 1))]) [1, 2, 0] rfl ?_
      exact h
    · replace h := h.2 q
      refine R_iconst e_X5_mostSettled_2.1 ?_
      refine R_goto 43 e_X5_mostSettled_2.2.1 (by decide) ?_
      obtain ⟨q8, h⟩ := h
      refine R_zast 64 WX_ok e_X5_mostSettled_2.2.2.2.1 kxa_88 q8 (Or.inr rfl) ?_
      refine R_iinc (ls2 := [(2, vI (l2 + 1)), (0, vA G 82), (1, vI l1)]) e_X5_mostSettled_2.2.2.2.2.1 2 rfl (by decide) rfl ?_
      refine R_goto 20 e_X5_mostSettled_2.2.2.2.2.2.1 (by decide) ?_
      refine R_ls (ls2 := [(0, vA G 82), (1, vI l1), (2, vI (l2 + 1))]) [1, 2, 0] rfl ?_
      exact h
theorem S_X5_mostSettled_52 {G : Kg} {σ : Kmem} {Q : Int → Kmem → Prop} {l1 l2 : Int}  (h : (rI l2) ∧ (rI (σ 31 1)) ∧ ((σ 31 1 ≤ l2 → E_X5_mostSettled_99 G 0 0 σ Q) ∧ (l2 < σ 31 1 → E_X5_mostSettled_65 G l1 l2 0 σ Q))) : E_X5_mostSettled_52 G l1 l2 σ Q := by
  refine R_iload_n e_X5_mostSettled_2.2.2.2.2.2.2.2.2.1 2 rfl ?_
  refine R_aload_n e_X5_mostSettled_2.2.2.2.2.2.2.2.2.2 0 rfl ?_
  refine R_getA 5 0 31 e_X5_mostSettled_3.1 f_X5_64 kx_82 (fun _ _ => rfl) rx_82_0 (by decide) ?_
  refine R_getI 0 1 1 e_X5_mostSettled_3.2.1 f_X5_84 (kC_self isC_31) (fun _ _ => rfl) rfl ?_
  obtain ⟨q9, h⟩ := h
  obtain ⟨q10, h⟩ := h
  refine R_icmp_ge 95 e_X5_mostSettled_3.2.2.1 (by decide) q9 q10 (fun q => ?_) (fun q => ?_)
  · replace h := h.1 q
    refine R_iconst e_X5_mostSettled_4.2.2.2.2.2.2.2.2.2 ?_
    refine R_istore_n (ls2 := [(2, vI 0), (0, vA G 82), (1, vI l1)]) e_X5_mostSettled_5.1 (by decide) rfl ?_
    refine R_iconst e_X5_mostSettled_5.2.1 ?_
    refine R_istore_n (ls2 := [(3, vI 0), (2, vI 0), (0, vA G 82), (1, vI l1)]) e_X5_mostSettled_5.2.2.1 (by decide) rfl ?_
    refine R_ls (ls2 := [(0, vA G 82), (2, vI 0), (3, vI 0)]) [2, 1, 0] rfl ?_
    exact h
  · replace h := h.2 q
    refine R_iconst e_X5_mostSettled_3.2.2.2.1 ?_
    refine R_istore_n (ls2 := [(3, vI 0), (0, vA G 82), (1, vI l1), (2, vI l2)]) e_X5_mostSettled_3.2.2.2.2.1 (by decide) rfl ?_
    refine R_ls (ls2 := [(0, vA G 82), (1, vI l1), (2, vI l2), (3, vI 0)]) [1, 2, 3, 0] rfl ?_
    exact h
theorem S_X5_mostSettled_99 {G : Kg} {σ : Kmem} {Q : Int → Kmem → Prop} {l1 l2 l3 : Int}  (h : (rI l3) ∧ ((64 ≤ l3 → Q l2 σ) ∧ (l3 < 64 → (0 ≤ l3 ∧ l3 < 64) ∧ (rI (σ 88 l3)) ∧ ((σ 88 l3 = 0 → E_X5_mostSettled_99 G l2 (l3 + 1) σ Q) ∧ (σ 88 l3 ≠ 0 → Run G WX M_J6_bitCount_0f7a4 0 0 0 [vI l3] σ (fun r14 s15 => (rI (l2) ∧ rI (r14)) ∧ E_X5_mostSettled_99 G (max (l2) (r14)) (l3 + 1) s15 Q)))))) : E_X5_mostSettled_99 G l2 l3 σ Q := by
  refine R_iload_n e_X5_mostSettled_5.2.2.2.1 2 rfl ?_
  refine R_aload_n e_X5_mostSettled_5.2.2.2.2.1 0 rfl ?_
  refine R_getA 5 16 88 e_X5_mostSettled_5.2.2.2.2.2.1 f_X5_55 kx_82 (fun _ _ => rfl) rx_82_16 (by decide) ?_
  refine R_alen 23 64 64 e_X5_mostSettled_5.2.2.2.2.2.2.1 kxa_88 (by decide) rfl ?_
  obtain ⟨q11, h⟩ := h
  refine R_icmp_ge 132 e_X5_mostSettled_5.2.2.2.2.2.2.2.1 (by decide) q11 (by decide) (fun q => ?_) (fun q => ?_)
  · replace h := h.1 q
    refine R_iload_n e_X5_mostSettled_7.1 1 rfl ?_
    exact R_ireturn e_X5_mostSettled_7.2 rfl h
  · replace h := h.2 q
    refine R_aload_n e_X5_mostSettled_5.2.2.2.2.2.2.2.2.1 0 rfl ?_
    refine R_getA 5 16 88 e_X5_mostSettled_5.2.2.2.2.2.2.2.2.2 f_X5_55 kx_82 (fun _ _ => rfl) rx_82_16 (by decide) ?_
    refine R_iload_n e_X5_mostSettled_6.1 2 rfl ?_
    obtain ⟨q12, h⟩ := h
    refine R_zald 64 e_X5_mostSettled_6.2.1 kxa_88 q12 ?_
    obtain ⟨q13, h⟩ := h
    refine R_if_eq 126 e_X5_mostSettled_6.2.2.1 (by decide) q13  (fun q => ?_) (fun q => ?_)
    · replace h := h.1 q
      refine R_iinc (ls2 := [(3, vI (l3 + 1)), (0, vA G 82), (2, vI l2)]) e_X5_mostSettled_6.2.2.2.2.2.2.2.2.1 2 rfl (by decide) rfl ?_
      refine R_goto 99 e_X5_mostSettled_6.2.2.2.2.2.2.2.2.2 (by decide) ?_
      refine R_ls (ls2 := [(0, vA G 82), (2, vI l2), (3, vI (l3 + 1))]) [1, 2, 0] rfl ?_
      exact h
    · replace h := h.2 q
      refine R_iload_n e_X5_mostSettled_6.2.2.2.1 1 rfl ?_
      refine R_iload_n e_X5_mostSettled_6.2.2.2.2.1 2 rfl ?_
      refine R_callS (mc := 0) (ms := 0) (mc' := 0) (ms' := 0) (M' := M_J6_bitCount_0f7a4) (d' := 0) (as := [vI l3]) (st := [vI l2]) 1 e_X5_mostSettled_6.2.2.2.2.2.1 (kCSof m_J6_bitCount_0f7a4 l_X5_136) (by decide) (by decide) rfl rfl (by show (1 : Nat) ≤ 8; decide) ?_
      refine Run.mono h (fun r14 s15 h => ?_)
      refine R_eqs (st2 := [vI r14, vI l2]) rfl rfl ?_
      obtain ⟨q18, h⟩ := h
      refine R_callS (mc := 0) (ms := 0) (mc' := 0) (ms' := 0) (M' := M_J9_max_7cf53) (d' := 0) (as := [vI l2, vI r14]) (st := []) 2 e_X5_mostSettled_6.2.2.2.2.2.2.1 (kCSof m_J9_max_7cf53 l_X5_156) (by decide) (by decide) rfl rfl (by show (0 : Nat) ≤ 8; decide) ?_
      refine Run.mono (P_J9_max_7cf53 q18) (fun r s e => ?_)
      obtain ⟨e1, e2⟩ := e
      refine R_eqs (st2 := [vI (max (l2) (r14))]) (σ2 := s15) (by rw [e1]; rfl) e2 ?_
      refine R_istore_n (ls2 := [(2, vI (max (l2) (r14))), (0, vA G 82), (3, vI l3)]) e_X5_mostSettled_6.2.2.2.2.2.2.2.1 (by decide) rfl ?_
      refine R_iinc (ls2 := [(3, vI (l3 + 1)), (2, vI (max (l2) (r14))), (0, vA G 82)]) e_X5_mostSettled_6.2.2.2.2.2.2.2.2.1 2 rfl (by decide) rfl ?_
      refine R_goto 99 e_X5_mostSettled_6.2.2.2.2.2.2.2.2.2 (by decide) ?_
      refine R_ls (ls2 := [(0, vA G 82), (2, vI (max (l2) (r14))), (3, vI (l3 + 1))]) [2, 1, 0] rfl ?_
      exact h
theorem S_X5_mostSettled_65 {G : Kg} {σ : Kmem} {Q : Int → Kmem → Prop} {l1 l2 l3 : Int}  (h : (rI l3) ∧ (rI (σ 31 0)) ∧ ((σ 31 0 ≤ l3 → E_X5_mostSettled_52 G l1 (l2 + 1) σ Q) ∧ (l3 < σ 31 0 → Run G WX M_X5_offerField 2 0 0 [vA G 82, vI l3, vI l2, vI l1] σ (fun r21 s22 => E_X5_mostSettled_65 G l1 l2 (l3 + 1) s22 Q)))) : E_X5_mostSettled_65 G l1 l2 l3 σ Q := by
  refine R_iload_n e_X5_mostSettled_3.2.2.2.2.2.1 3 rfl ?_
  refine R_aload_n e_X5_mostSettled_3.2.2.2.2.2.2.1 0 rfl ?_
  refine R_getA 5 0 31 e_X5_mostSettled_3.2.2.2.2.2.2.2.1 f_X5_64 kx_82 (fun _ _ => rfl) rx_82_0 (by decide) ?_
  refine R_getI 0 0 0 e_X5_mostSettled_3.2.2.2.2.2.2.2.2.1 f_X5_87 (kC_self isC_31) (fun _ _ => rfl) rfl ?_
  obtain ⟨q19, h⟩ := h
  obtain ⟨q20, h⟩ := h
  refine R_icmp_ge 89 e_X5_mostSettled_3.2.2.2.2.2.2.2.2.2 (by decide) q19 q20 (fun q => ?_) (fun q => ?_)
  · replace h := h.1 q
    refine R_iinc (ls2 := [(2, vI (l2 + 1)), (0, vA G 82), (1, vI l1), (3, vI l3)]) e_X5_mostSettled_4.2.2.2.2.2.2.2.1 2 rfl (by decide) rfl ?_
    refine R_goto 52 e_X5_mostSettled_4.2.2.2.2.2.2.2.2.1 (by decide) ?_
    refine R_ls (ls2 := [(0, vA G 82), (1, vI l1), (2, vI (l2 + 1))]) [1, 2, 0] rfl ?_
    exact h
  · replace h := h.2 q
    refine R_aload_n e_X5_mostSettled_4.1 0 rfl ?_
    refine R_iload_n e_X5_mostSettled_4.2.1 3 rfl ?_
    refine R_iload_n e_X5_mostSettled_4.2.2.1 2 rfl ?_
    refine R_iload_n e_X5_mostSettled_4.2.2.2.1 1 rfl ?_
    refine R_callV (mc := 0) (ms := 0) (mc' := 0) (ms' := 0) (M' := M_X5_offerField) (d' := 2) (as := [vI l3, vI l2, vI l1]) (st := []) 5 3 e_X5_mostSettled_4.2.2.2.2.1 (kCVof m_X5_offerField l_X5_152) rfl (by decide) kx_82 (by decide) (by decide) rfl rfl (by show (0 : Nat) ≤ 8; decide) ?_
    refine Run.mono h (fun r21 s22 h => ?_)
    refine R_eqs (st2 := []) rfl rfl ?_
    refine R_iinc (ls2 := [(3, vI (l3 + 1)), (0, vA G 82), (1, vI l1), (2, vI l2)]) e_X5_mostSettled_4.2.2.2.2.2.1 3 rfl (by decide) rfl ?_
    refine R_goto 65 e_X5_mostSettled_4.2.2.2.2.2.2.1 (by decide) ?_
    refine R_ls (ls2 := [(0, vA G 82), (1, vI l1), (2, vI l2), (3, vI (l3 + 1))]) [1, 2, 3, 0] rfl ?_
    exact h
/-! KiteLand$Plans.countStrips(I)V -/
theorem e_X5_countStrips_0 : decode cX5_countStrips 0 = .ok (.iconst 0, 1) ∧ decode cX5_countStrips 1 = .ok (.istore_n 2, 1) ∧ decode cX5_countStrips 2 = .ok (.iload_n 2, 1) ∧ decode cX5_countStrips 3 = .ok (.bipush 6, 2) ∧ decode cX5_countStrips 5 = .ok (.if_icmp .ge 32, 3) ∧ decode cX5_countStrips 8 = .ok (.iconst 0, 1) ∧ decode cX5_countStrips 9 = .ok (.istore_n 3, 1) ∧ decode cX5_countStrips 10 = .ok (.iload_n 3, 1) ∧ decode cX5_countStrips 11 = .ok (.bipush 9, 2) ∧ decode cX5_countStrips 13 = .ok (.if_icmp .ge 18, 3) := by decide +kernel
theorem e_X5_countStrips_1 : decode cX5_countStrips 16 = .ok (.aload_n 0, 1) ∧ decode cX5_countStrips 17 = .ok (.getfield 61, 3) ∧ decode cX5_countStrips 20 = .ok (.iload_n 2, 1) ∧ decode cX5_countStrips 21 = .ok (.aaload, 1) ∧ decode cX5_countStrips 22 = .ok (.iload_n 3, 1) ∧ decode cX5_countStrips 23 = .ok (.iconst 0, 1) ∧ decode cX5_countStrips 24 = .ok (.iastore, 1) ∧ decode cX5_countStrips 25 = .ok (.iinc 3 1, 3) ∧ decode cX5_countStrips 28 = .ok (.goto (-18), 3) ∧ decode cX5_countStrips 31 = .ok (.iinc 2 1, 3) := by decide +kernel
theorem e_X5_countStrips_2 : decode cX5_countStrips 34 = .ok (.goto (-32), 3) ∧ decode cX5_countStrips 37 = .ok (.iconst 0, 1) ∧ decode cX5_countStrips 38 = .ok (.istore_n 2, 1) ∧ decode cX5_countStrips 39 = .ok (.iload_n 2, 1) ∧ decode cX5_countStrips 40 = .ok (.bipush 12, 2) ∧ decode cX5_countStrips 42 = .ok (.if_icmp .ge 87, 3) ∧ decode cX5_countStrips 45 = .ok (.aload_n 0, 1) ∧ decode cX5_countStrips 46 = .ok (.getfield 68, 3) ∧ decode cX5_countStrips 49 = .ok (.aload_n 0, 1) ∧ decode cX5_countStrips 50 = .ok (.getfield 64, 3) := by decide +kernel
theorem e_X5_countStrips_3 : decode cX5_countStrips 53 = .ok (.iload_n 2, 1) ∧ decode cX5_countStrips 54 = .ok (.invokevirtual 176, 3) ∧ decode cX5_countStrips 57 = .ok (.iconst 0, 1) ∧ decode cX5_countStrips 58 = .ok (.istore_n 3, 1) ∧ decode cX5_countStrips 59 = .ok (.iload_n 3, 1) ∧ decode cX5_countStrips 60 = .ok (.aload_n 0, 1) ∧ decode cX5_countStrips 61 = .ok (.getfield 64, 3) ∧ decode cX5_countStrips 64 = .ok (.getfield 179, 3) ∧ decode cX5_countStrips 67 = .ok (.if_icmp .ge 56, 3) ∧ decode cX5_countStrips 70 = .ok (.iconst 0, 1) := by decide +kernel
theorem e_X5_countStrips_4 : decode cX5_countStrips 71 = .ok (.istore 4, 2) ∧ decode cX5_countStrips 73 = .ok (.iload 4, 2) ∧ decode cX5_countStrips 75 = .ok (.aload_n 0, 1) ∧ decode cX5_countStrips 76 = .ok (.getfield 64, 3) ∧ decode cX5_countStrips 79 = .ok (.getfield 87, 3) ∧ decode cX5_countStrips 82 = .ok (.if_icmp .ge 35, 3) ∧ decode cX5_countStrips 85 = .ok (.aload_n 0, 1) ∧ decode cX5_countStrips 86 = .ok (.getfield 61, 3) ∧ decode cX5_countStrips 89 = .ok (.iload_n 3, 1) ∧ decode cX5_countStrips 90 = .ok (.aaload, 1) := by decide +kernel
theorem e_X5_countStrips_5 : decode cX5_countStrips 91 = .ok (.iload 4, 2) ∧ decode cX5_countStrips 93 = .ok (.dup2, 1) ∧ decode cX5_countStrips 94 = .ok (.iaload, 1) ∧ decode cX5_countStrips 95 = .ok (.aload_n 0, 1) ∧ decode cX5_countStrips 96 = .ok (.getfield 68, 3) ∧ decode cX5_countStrips 99 = .ok (.iload 4, 2) ∧ decode cX5_countStrips 101 = .ok (.iload_n 1, 1) ∧ decode cX5_countStrips 102 = .ok (.invokevirtual 133, 3) ∧ decode cX5_countStrips 105 = .ok (.iload_n 3, 1) ∧ decode cX5_countStrips 106 = .ok (.ishr, 1) := by decide +kernel
theorem e_X5_countStrips_6 : decode cX5_countStrips 107 = .ok (.iconst 1, 1) ∧ decode cX5_countStrips 108 = .ok (.iand, 1) ∧ decode cX5_countStrips 109 = .ok (.iadd, 1) ∧ decode cX5_countStrips 110 = .ok (.iastore, 1) ∧ decode cX5_countStrips 111 = .ok (.iinc 4 1, 3) ∧ decode cX5_countStrips 114 = .ok (.goto (-41), 3) ∧ decode cX5_countStrips 117 = .ok (.iinc 3 1, 3) ∧ decode cX5_countStrips 120 = .ok (.goto (-61), 3) ∧ decode cX5_countStrips 123 = .ok (.iinc 2 1, 3) ∧ decode cX5_countStrips 126 = .ok (.goto (-87), 3) := by decide +kernel
theorem e_X5_countStrips_7 : decode cX5_countStrips 129 = .ok (.return_, 1) := by decide +kernel
abbrev E_X5_countStrips_2 (G : Kg) (l1 l2 : Int) (σ : Kmem) (Q : Int → Kmem → Prop) : Prop := Ex G WX M_X5_countStrips 4 0 0 2 [(0, vA G 82), (1, vI l1), (2, vI l2)] [] σ Q
abbrev E_X5_countStrips_10 (G : Kg) (l1 l2 l3 : Int) (σ : Kmem) (Q : Int → Kmem → Prop) : Prop := Ex G WX M_X5_countStrips 4 0 0 10 [(0, vA G 82), (1, vI l1), (2, vI l2), (3, vI l3)] [] σ Q
abbrev E_X5_countStrips_39 (G : Kg) (l1 l2 : Int) (σ : Kmem) (Q : Int → Kmem → Prop) : Prop := Ex G WX M_X5_countStrips 4 0 0 39 [(0, vA G 82), (1, vI l1), (2, vI l2)] [] σ Q
abbrev E_X5_countStrips_59 (G : Kg) (l1 l2 l3 : Int) (σ : Kmem) (Q : Int → Kmem → Prop) : Prop := Ex G WX M_X5_countStrips 4 0 0 59 [(0, vA G 82), (1, vI l1), (2, vI l2), (3, vI l3)] [] σ Q
abbrev E_X5_countStrips_73 (G : Kg) (l1 l2 l3 l4 : Int) (σ : Kmem) (Q : Int → Kmem → Prop) : Prop := Ex G WX M_X5_countStrips 4 0 0 73 [(0, vA G 82), (1, vI l1), (2, vI l2), (3, vI l3), (4, vI l4)] [] σ Q
theorem S_X5_countStrips {G : Kg} {σ : Kmem} {Q : Int → Kmem → Prop} {l1 : Int}  (h : E_X5_countStrips_2 G l1 0 σ Q) : Run G WX M_X5_countStrips 4 0 0 [vA G 82, vI l1] σ Q := by
  refine Run.of (by decide +kernel) (by show (2 : Nat) ≤ 5; decide) ?_
  show Ex G WX M_X5_countStrips 4 0 0 0 [(0, vA G 82), (1, vI l1)] [] σ Q
  refine R_iconst e_X5_countStrips_0.1 ?_
  refine R_istore_n (ls2 := [(2, vI 0), (0, vA G 82), (1, vI l1)]) e_X5_countStrips_0.2.1 (by decide) rfl ?_
  refine R_ls (ls2 := [(0, vA G 82), (1, vI l1), (2, vI 0)]) [1, 2, 0] rfl ?_
  exact h
theorem S_X5_countStrips_2 {G : Kg} {σ : Kmem} {Q : Int → Kmem → Prop} {l1 l2 : Int}  (h : (rI l2) ∧ ((6 ≤ l2 → E_X5_countStrips_39 G l1 0 σ Q) ∧ (l2 < 6 → E_X5_countStrips_10 G l1 l2 0 σ Q))) : E_X5_countStrips_2 G l1 l2 σ Q := by
  refine R_iload_n e_X5_countStrips_0.2.2.1 2 rfl ?_
  refine R_bipush e_X5_countStrips_0.2.2.2.1 (by decide) ?_
  obtain ⟨q1, h⟩ := h
  refine R_icmp_ge 37 e_X5_countStrips_0.2.2.2.2.1 (by decide) q1 (by decide) (fun q => ?_) (fun q => ?_)
  · replace h := h.1 q
    refine R_iconst e_X5_countStrips_2.2.1 ?_
    refine R_istore_n (ls2 := [(2, vI 0), (0, vA G 82), (1, vI l1)]) e_X5_countStrips_2.2.2.1 (by decide) rfl ?_
    refine R_ls (ls2 := [(0, vA G 82), (1, vI l1), (2, vI 0)]) [1, 2, 0] rfl ?_
    exact h
  · replace h := h.2 q
    refine R_iconst e_X5_countStrips_0.2.2.2.2.2.1 ?_
    refine R_istore_n (ls2 := [(3, vI 0), (0, vA G 82), (1, vI l1), (2, vI l2)]) e_X5_countStrips_0.2.2.2.2.2.2.1 (by decide) rfl ?_
    refine R_ls (ls2 := [(0, vA G 82), (1, vI l1), (2, vI l2), (3, vI 0)]) [1, 2, 3, 0] rfl ?_
    exact h
theorem S_X5_countStrips_39 {G : Kg} {σ : Kmem} {Q : Int → Kmem → Prop} {l1 l2 : Int}  (h : (rI l2) ∧ ((12 ≤ l2 → Q 0 σ) ∧ (l2 < 12 → Run G WX M_X8_lookPastCuts 3 0 0 [vA G 58, vA G 31, vI l2] σ (fun r3 s4 => E_X5_countStrips_59 G l1 l2 0 s4 Q)))) : E_X5_countStrips_39 G l1 l2 σ Q := by
  refine R_iload_n e_X5_countStrips_2.2.2.2.1 2 rfl ?_
  refine R_bipush e_X5_countStrips_2.2.2.2.2.1 (by decide) ?_
  obtain ⟨q2, h⟩ := h
  refine R_icmp_ge 129 e_X5_countStrips_2.2.2.2.2.2.1 (by decide) q2 (by decide) (fun q => ?_) (fun q => ?_)
  · replace h := h.1 q
    exact R_return e_X5_countStrips_7 rfl h
  · replace h := h.2 q
    refine R_aload_n e_X5_countStrips_2.2.2.2.2.2.2.1 0 rfl ?_
    refine R_getA 5 1 58 e_X5_countStrips_2.2.2.2.2.2.2.2.1 f_X5_68 kx_82 (fun _ _ => rfl) rx_82_1 (by decide) ?_
    refine R_aload_n e_X5_countStrips_2.2.2.2.2.2.2.2.2.1 0 rfl ?_
    refine R_getA 5 0 31 e_X5_countStrips_2.2.2.2.2.2.2.2.2.2 f_X5_64 kx_82 (fun _ _ => rfl) rx_82_0 (by decide) ?_
    refine R_iload_n e_X5_countStrips_3.1 2 rfl ?_
    refine R_callV (mc := 0) (ms := 0) (mc' := 0) (ms' := 0) (M' := M_X8_lookPastCuts) (d' := 3) (as := [vA G 31, vI l2]) (st := []) 8 2 e_X5_countStrips_3.2.1 (kCVof m_X8_lookPastCuts l_X5_176) rfl (by decide) kx_58 (by decide) (by decide) rfl rfl (by show (0 : Nat) ≤ 8; decide) ?_
    refine Run.mono h (fun r3 s4 h => ?_)
    refine R_eqs (st2 := []) rfl rfl ?_
    refine R_iconst e_X5_countStrips_3.2.2.1 ?_
    refine R_istore_n (ls2 := [(3, vI 0), (0, vA G 82), (1, vI l1), (2, vI l2)]) e_X5_countStrips_3.2.2.2.1 (by decide) rfl ?_
    refine R_ls (ls2 := [(0, vA G 82), (1, vI l1), (2, vI l2), (3, vI 0)]) [1, 2, 3, 0] rfl ?_
    exact h
theorem S_X5_countStrips_10 {G : Kg} {σ : Kmem} {Q : Int → Kmem → Prop} {l1 l2 l3 : Int}  (h : (rI l3) ∧ ((9 ≤ l3 → E_X5_countStrips_2 G l1 (l2 + 1) σ Q) ∧ (l3 < 9 → (0 ≤ l2 ∧ l2 < 6) ∧ (0 ≤ l3 ∧ l3 < 9) ∧ E_X5_countStrips_10 G l1 l2 (l3 + 1) (kup σ (90 + l2) l3 0) Q))) : E_X5_countStrips_10 G l1 l2 l3 σ Q := by
  refine R_iload_n e_X5_countStrips_0.2.2.2.2.2.2.2.1 3 rfl ?_
  refine R_bipush e_X5_countStrips_0.2.2.2.2.2.2.2.2.1 (by decide) ?_
  obtain ⟨q5, h⟩ := h
  refine R_icmp_ge 31 e_X5_countStrips_0.2.2.2.2.2.2.2.2.2 (by decide) q5 (by decide) (fun q => ?_) (fun q => ?_)
  · replace h := h.1 q
    refine R_iinc (ls2 := [(2, vI (l2 + 1)), (0, vA G 82), (1, vI l1), (3, vI l3)]) e_X5_countStrips_1.2.2.2.2.2.2.2.2.2 2 rfl (by decide) rfl ?_
    refine R_goto 2 e_X5_countStrips_2.1 (by decide) ?_
    refine R_ls (ls2 := [(0, vA G 82), (1, vI l1), (2, vI (l2 + 1))]) [1, 2, 0] rfl ?_
    exact h
  · replace h := h.2 q
    refine R_aload_n e_X5_countStrips_1.1 0 rfl ?_
    refine R_getA 5 17 89 e_X5_countStrips_1.2.1 f_X5_61 kx_82 (fun _ _ => rfl) rx_82_17 (by decide) ?_
    refine R_iload_n e_X5_countStrips_1.2.2.1 2 rfl ?_
    obtain ⟨q6, h⟩ := h
    refine R_aald2 6 (90 + l2) e_X5_countStrips_1.2.2.2.1 kxa_89 q6 (adP_at q6) (adP_n q6) ?_
    refine R_iload_n e_X5_countStrips_1.2.2.2.2.1 3 rfl ?_
    refine R_iconst e_X5_countStrips_1.2.2.2.2.2.1 ?_
    obtain ⟨q7, h⟩ := h
    refine R_iast 9 WX_ok e_X5_countStrips_1.2.2.2.2.2.2.1 (adP_ar q6) q7 ?_
    refine R_iinc (ls2 := [(3, vI (l3 + 1)), (0, vA G 82), (1, vI l1), (2, vI l2)]) e_X5_countStrips_1.2.2.2.2.2.2.2.1 3 rfl (by decide) rfl ?_
    refine R_goto 10 e_X5_countStrips_1.2.2.2.2.2.2.2.2.1 (by decide) ?_
    refine R_ls (ls2 := [(0, vA G 82), (1, vI l1), (2, vI l2), (3, vI (l3 + 1))]) [1, 2, 3, 0] rfl ?_
    exact h
theorem S_X5_countStrips_59 {G : Kg} {σ : Kmem} {Q : Int → Kmem → Prop} {l1 l2 l3 : Int}  (h : (rI l3) ∧ (rI (σ 31 5)) ∧ ((σ 31 5 ≤ l3 → E_X5_countStrips_39 G l1 (l2 + 1) σ Q) ∧ (l3 < σ 31 5 → E_X5_countStrips_73 G l1 l2 l3 0 σ Q))) : E_X5_countStrips_59 G l1 l2 l3 σ Q := by
  refine R_iload_n e_X5_countStrips_3.2.2.2.2.1 3 rfl ?_
  refine R_aload_n e_X5_countStrips_3.2.2.2.2.2.1 0 rfl ?_
  refine R_getA 5 0 31 e_X5_countStrips_3.2.2.2.2.2.2.1 f_X5_64 kx_82 (fun _ _ => rfl) rx_82_0 (by decide) ?_
  refine R_getI 0 5 5 e_X5_countStrips_3.2.2.2.2.2.2.2.1 f_X5_179 (kC_self isC_31) (fun _ _ => rfl) rfl ?_
  obtain ⟨q8, h⟩ := h
  obtain ⟨q9, h⟩ := h
  refine R_icmp_ge 123 e_X5_countStrips_3.2.2.2.2.2.2.2.2.1 (by decide) q8 q9 (fun q => ?_) (fun q => ?_)
  · replace h := h.1 q
    refine R_iinc (ls2 := [(2, vI (l2 + 1)), (0, vA G 82), (1, vI l1), (3, vI l3)]) e_X5_countStrips_6.2.2.2.2.2.2.2.2.1 2 rfl (by decide) rfl ?_
    refine R_goto 39 e_X5_countStrips_6.2.2.2.2.2.2.2.2.2 (by decide) ?_
    refine R_ls (ls2 := [(0, vA G 82), (1, vI l1), (2, vI (l2 + 1))]) [1, 2, 0] rfl ?_
    exact h
  · replace h := h.2 q
    refine R_iconst e_X5_countStrips_3.2.2.2.2.2.2.2.2.2 ?_
    refine R_istore (ls2 := [(4, vI 0), (0, vA G 82), (1, vI l1), (2, vI l2), (3, vI l3)]) e_X5_countStrips_4.1 (by decide) rfl ?_
    refine R_ls (ls2 := [(0, vA G 82), (1, vI l1), (2, vI l2), (3, vI l3), (4, vI 0)]) [1, 2, 3, 4, 0] rfl ?_
    exact h
theorem S_X5_countStrips_73 {G : Kg} {σ : Kmem} {Q : Int → Kmem → Prop} {l1 l2 l3 l4 : Int}  (h : (rI l4) ∧ (rI (σ 31 0)) ∧ ((σ 31 0 ≤ l4 → E_X5_countStrips_59 G l1 l2 (l3 + 1) σ Q) ∧ (l4 < σ 31 0 → (0 ≤ l3 ∧ l3 < 6) ∧ (0 ≤ l4 ∧ l4 < 9) ∧ (0 ≤ (l1 * 9) + l4 ∧ (l1 * 9) + l4 < 63) ∧ (0 ≤ l4 ∧ l4 < 9) ∧ E_X5_countStrips_73 G l1 l2 l3 (l4 + 1) (kup σ (90 + l3) l4 ((σ (90 + l3) l4) + (kand (kshr (σ 62 ((l1 * 9) + l4)) l3) 1))) Q))) : E_X5_countStrips_73 G l1 l2 l3 l4 σ Q := by
  refine R_iload e_X5_countStrips_4.2.1 4 rfl ?_
  refine R_aload_n e_X5_countStrips_4.2.2.1 0 rfl ?_
  refine R_getA 5 0 31 e_X5_countStrips_4.2.2.2.1 f_X5_64 kx_82 (fun _ _ => rfl) rx_82_0 (by decide) ?_
  refine R_getI 0 0 0 e_X5_countStrips_4.2.2.2.2.1 f_X5_87 (kC_self isC_31) (fun _ _ => rfl) rfl ?_
  obtain ⟨q10, h⟩ := h
  obtain ⟨q11, h⟩ := h
  refine R_icmp_ge 117 e_X5_countStrips_4.2.2.2.2.2.1 (by decide) q10 q11 (fun q => ?_) (fun q => ?_)
  · replace h := h.1 q
    refine R_iinc (ls2 := [(3, vI (l3 + 1)), (0, vA G 82), (1, vI l1), (2, vI l2), (4, vI l4)]) e_X5_countStrips_6.2.2.2.2.2.2.1 3 rfl (by decide) rfl ?_
    refine R_goto 59 e_X5_countStrips_6.2.2.2.2.2.2.2.1 (by decide) ?_
    refine R_ls (ls2 := [(0, vA G 82), (1, vI l1), (2, vI l2), (3, vI (l3 + 1))]) [1, 2, 3, 0] rfl ?_
    exact h
  · replace h := h.2 q
    refine R_aload_n e_X5_countStrips_4.2.2.2.2.2.2.1 0 rfl ?_
    refine R_getA 5 17 89 e_X5_countStrips_4.2.2.2.2.2.2.2.1 f_X5_61 kx_82 (fun _ _ => rfl) rx_82_17 (by decide) ?_
    refine R_iload_n e_X5_countStrips_4.2.2.2.2.2.2.2.2.1 3 rfl ?_
    obtain ⟨q12, h⟩ := h
    refine R_aald2 6 (90 + l3) e_X5_countStrips_4.2.2.2.2.2.2.2.2.2 kxa_89 q12 (adP_at q12) (adP_n q12) ?_
    refine R_iload e_X5_countStrips_5.1 4 rfl ?_
    refine R_dup2 e_X5_countStrips_5.2.1 rfl rfl ?_
    obtain ⟨q13, h⟩ := h
    refine R_iald 9 e_X5_countStrips_5.2.2.1 (adP_ar q12) q13 ?_
    refine R_aload_n e_X5_countStrips_5.2.2.2.1 0 rfl ?_
    refine R_getA 5 1 58 e_X5_countStrips_5.2.2.2.2.1 f_X5_68 kx_82 (fun _ _ => rfl) rx_82_1 (by decide) ?_
    refine R_iload e_X5_countStrips_5.2.2.2.2.2.1 4 rfl ?_
    refine R_iload_n e_X5_countStrips_5.2.2.2.2.2.2.1 1 rfl ?_
    refine R_callV (mc := 0) (ms := 0) (mc' := 0) (ms' := 0) (M' := M_X8_shadersOf) (d' := 0) (as := [vI l4, vI l1]) (st := [vI (σ (90 + l3) l4), vI l4, vA G (90 + l3)]) 8 2 e_X5_countStrips_5.2.2.2.2.2.2.2.1 (kCVof m_X8_shadersOf l_X5_133) rfl (by decide) kx_58 (by decide) (by decide) rfl rfl (by show (3 : Nat) ≤ 8; decide) ?_
    obtain ⟨q16, h⟩ := h
    refine S_X8_shadersOf ⟨q16, ?_⟩
    refine R_eqs (st2 := [vI (σ 62 ((l1 * 9) + l4)), vI (σ (90 + l3) l4), vI l4, vA G (90 + l3)]) (σ2 := σ) rfl rfl ?_
    refine R_iload_n e_X5_countStrips_5.2.2.2.2.2.2.2.2.1 3 rfl ?_
    refine R_ishr e_X5_countStrips_5.2.2.2.2.2.2.2.2.2 ?_
    refine R_iconst e_X5_countStrips_6.1 ?_
    refine R_iand e_X5_countStrips_6.2.1 ?_
    refine R_iadd e_X5_countStrips_6.2.2.1 ?_
    obtain ⟨q17, h⟩ := h
    refine R_iast 9 WX_ok e_X5_countStrips_6.2.2.2.1 (adP_ar q12) q17 ?_
    refine R_iinc (ls2 := [(4, vI (l4 + 1)), (0, vA G 82), (1, vI l1), (2, vI l2), (3, vI l3)]) e_X5_countStrips_6.2.2.2.2.1 4 rfl (by decide) rfl ?_
    refine R_goto 73 e_X5_countStrips_6.2.2.2.2.2.1 (by decide) ?_
    refine R_ls (ls2 := [(0, vA G 82), (1, vI l1), (2, vI l2), (3, vI l3), (4, vI (l4 + 1))]) [1, 2, 3, 4, 0] rfl ?_
    exact h
/-! KiteLand$Plans.areAlike(II)Z -/
theorem e_X5_areAlike_0 : decode cX5_areAlike 0 = .ok (.iconst 0, 1) ∧ decode cX5_areAlike 1 = .ok (.istore_n 3, 1) ∧ decode cX5_areAlike 2 = .ok (.iload_n 3, 1) ∧ decode cX5_areAlike 3 = .ok (.aload_n 0, 1) ∧ decode cX5_areAlike 4 = .ok (.getfield 64, 3) ∧ decode cX5_areAlike 7 = .ok (.getfield 87, 3) ∧ decode cX5_areAlike 10 = .ok (.if_icmp .ge 30, 3) ∧ decode cX5_areAlike 13 = .ok (.aload_n 0, 1) ∧ decode cX5_areAlike 14 = .ok (.getfield 61, 3) ∧ decode cX5_areAlike 17 = .ok (.iload_n 1, 1) := by decide +kernel
theorem e_X5_areAlike_1 : decode cX5_areAlike 18 = .ok (.aaload, 1) ∧ decode cX5_areAlike 19 = .ok (.iload_n 3, 1) ∧ decode cX5_areAlike 20 = .ok (.iaload, 1) ∧ decode cX5_areAlike 21 = .ok (.aload_n 0, 1) ∧ decode cX5_areAlike 22 = .ok (.getfield 61, 3) ∧ decode cX5_areAlike 25 = .ok (.iload_n 2, 1) ∧ decode cX5_areAlike 26 = .ok (.aaload, 1) ∧ decode cX5_areAlike 27 = .ok (.iload_n 3, 1) ∧ decode cX5_areAlike 28 = .ok (.iaload, 1) ∧ decode cX5_areAlike 29 = .ok (.if_icmp .eq 5, 3) := by decide +kernel
theorem e_X5_areAlike_2 : decode cX5_areAlike 32 = .ok (.iconst 0, 1) ∧ decode cX5_areAlike 33 = .ok (.ireturn, 1) ∧ decode cX5_areAlike 34 = .ok (.iinc 3 1, 3) ∧ decode cX5_areAlike 37 = .ok (.goto (-35), 3) ∧ decode cX5_areAlike 40 = .ok (.iconst 1, 1) ∧ decode cX5_areAlike 41 = .ok (.ireturn, 1) := by decide +kernel
abbrev E_X5_areAlike_2 (G : Kg) (l1 l2 l3 : Int) (σ : Kmem) (Q : Int → Kmem → Prop) : Prop := Ex G WX M_X5_areAlike 0 0 0 2 [(0, vA G 82), (1, vI l1), (2, vI l2), (3, vI l3)] [] σ Q
theorem S_X5_areAlike {G : Kg} {σ : Kmem} {Q : Int → Kmem → Prop} {l1 l2 : Int}  (h : E_X5_areAlike_2 G l1 l2 0 σ Q) : Run G WX M_X5_areAlike 0 0 0 [vA G 82, vI l1, vI l2] σ Q := by
  refine Run.of (by decide +kernel) (by show (3 : Nat) ≤ 4; decide) ?_
  show Ex G WX M_X5_areAlike 0 0 0 0 [(0, vA G 82), (1, vI l1), (2, vI l2)] [] σ Q
  refine R_iconst e_X5_areAlike_0.1 ?_
  refine R_istore_n (ls2 := [(3, vI 0), (0, vA G 82), (1, vI l1), (2, vI l2)]) e_X5_areAlike_0.2.1 (by decide) rfl ?_
  refine R_ls (ls2 := [(0, vA G 82), (1, vI l1), (2, vI l2), (3, vI 0)]) [1, 2, 3, 0] rfl ?_
  exact h
theorem S_X5_areAlike_2 {G : Kg} {σ : Kmem} {Q : Int → Kmem → Prop} {l1 l2 l3 : Int}  (h : (rI l3) ∧ (rI (σ 31 0)) ∧ ((σ 31 0 ≤ l3 → Q 1 σ) ∧ (l3 < σ 31 0 → (0 ≤ l1 ∧ l1 < 6) ∧ (0 ≤ l3 ∧ l3 < 9) ∧ (0 ≤ l2 ∧ l2 < 6) ∧ (0 ≤ l3 ∧ l3 < 9) ∧ (rI (σ (90 + l1) l3)) ∧ (rI (σ (90 + l2) l3)) ∧ ((σ (90 + l1) l3 = σ (90 + l2) l3 → E_X5_areAlike_2 G l1 l2 (l3 + 1) σ Q) ∧ (σ (90 + l1) l3 ≠ σ (90 + l2) l3 → Q 0 σ))))) : E_X5_areAlike_2 G l1 l2 l3 σ Q := by
  refine R_iload_n e_X5_areAlike_0.2.2.1 3 rfl ?_
  refine R_aload_n e_X5_areAlike_0.2.2.2.1 0 rfl ?_
  refine R_getA 5 0 31 e_X5_areAlike_0.2.2.2.2.1 f_X5_64 kx_82 (fun _ _ => rfl) rx_82_0 (by decide) ?_
  refine R_getI 0 0 0 e_X5_areAlike_0.2.2.2.2.2.1 f_X5_87 (kC_self isC_31) (fun _ _ => rfl) rfl ?_
  obtain ⟨q1, h⟩ := h
  obtain ⟨q2, h⟩ := h
  refine R_icmp_ge 40 e_X5_areAlike_0.2.2.2.2.2.2.1 (by decide) q1 q2 (fun q => ?_) (fun q => ?_)
  · replace h := h.1 q
    refine R_iconst e_X5_areAlike_2.2.2.2.2.1 ?_
    exact R_zreturn e_X5_areAlike_2.2.2.2.2.2 rfl (Or.inr rfl) h
  · replace h := h.2 q
    refine R_aload_n e_X5_areAlike_0.2.2.2.2.2.2.2.1 0 rfl ?_
    refine R_getA 5 17 89 e_X5_areAlike_0.2.2.2.2.2.2.2.2.1 f_X5_61 kx_82 (fun _ _ => rfl) rx_82_17 (by decide) ?_
    refine R_iload_n e_X5_areAlike_0.2.2.2.2.2.2.2.2.2 1 rfl ?_
    obtain ⟨q3, h⟩ := h
    refine R_aald2 6 (90 + l1) e_X5_areAlike_1.1 kxa_89 q3 (adP_at q3) (adP_n q3) ?_
    refine R_iload_n e_X5_areAlike_1.2.1 3 rfl ?_
    obtain ⟨q4, h⟩ := h
    refine R_iald 9 e_X5_areAlike_1.2.2.1 (adP_ar q3) q4 ?_
    refine R_aload_n e_X5_areAlike_1.2.2.2.1 0 rfl ?_
    refine R_getA 5 17 89 e_X5_areAlike_1.2.2.2.2.1 f_X5_61 kx_82 (fun _ _ => rfl) rx_82_17 (by decide) ?_
    refine R_iload_n e_X5_areAlike_1.2.2.2.2.2.1 2 rfl ?_
    obtain ⟨q5, h⟩ := h
    refine R_aald2 6 (90 + l2) e_X5_areAlike_1.2.2.2.2.2.2.1 kxa_89 q5 (adP_at q5) (adP_n q5) ?_
    refine R_iload_n e_X5_areAlike_1.2.2.2.2.2.2.2.1 3 rfl ?_
    obtain ⟨q6, h⟩ := h
    refine R_iald 9 e_X5_areAlike_1.2.2.2.2.2.2.2.2.1 (adP_ar q5) q6 ?_
    obtain ⟨q7, h⟩ := h
    obtain ⟨q8, h⟩ := h
    refine R_icmp_eq 34 e_X5_areAlike_1.2.2.2.2.2.2.2.2.2 (by decide) q7 q8 (fun q => ?_) (fun q => ?_)
    · replace h := h.1 q
      refine R_iinc (ls2 := [(3, vI (l3 + 1)), (0, vA G 82), (1, vI l1), (2, vI l2)]) e_X5_areAlike_2.2.2.1 3 rfl (by decide) rfl ?_
      refine R_goto 2 e_X5_areAlike_2.2.2.2.1 (by decide) ?_
      refine R_ls (ls2 := [(0, vA G 82), (1, vI l1), (2, vI l2), (3, vI (l3 + 1))]) [1, 2, 3, 0] rfl ?_
      exact h
    · replace h := h.2 q
      refine R_iconst e_X5_areAlike_2.1 ?_
      exact R_zreturn e_X5_areAlike_2.2.1 rfl (Or.inl rfl) h
/-! KiteLand$Plans.unlikeStrips(I)I -/
theorem e_X5_unlikeStrips_0 : decode cX5_unlikeStrips 0 = .ok (.aload_n 0, 1) ∧ decode cX5_unlikeStrips 1 = .ok (.iload_n 1, 1) ∧ decode cX5_unlikeStrips 2 = .ok (.invokevirtual 182, 3) ∧ decode cX5_unlikeStrips 5 = .ok (.iconst 0, 1) ∧ decode cX5_unlikeStrips 6 = .ok (.istore_n 2, 1) ∧ decode cX5_unlikeStrips 7 = .ok (.iconst 0, 1) ∧ decode cX5_unlikeStrips 8 = .ok (.istore_n 3, 1) ∧ decode cX5_unlikeStrips 9 = .ok (.iload_n 3, 1) ∧ decode cX5_unlikeStrips 10 = .ok (.aload_n 0, 1) ∧ decode cX5_unlikeStrips 11 = .ok (.getfield 64, 3) := by decide +kernel
theorem e_X5_unlikeStrips_1 : decode cX5_unlikeStrips 14 = .ok (.getfield 179, 3) ∧ decode cX5_unlikeStrips 17 = .ok (.if_icmp .ge 48, 3) ∧ decode cX5_unlikeStrips 20 = .ok (.iconst 1, 1) ∧ decode cX5_unlikeStrips 21 = .ok (.istore 4, 2) ∧ decode cX5_unlikeStrips 23 = .ok (.iconst 0, 1) ∧ decode cX5_unlikeStrips 24 = .ok (.istore 5, 2) ∧ decode cX5_unlikeStrips 26 = .ok (.iload 5, 2) ∧ decode cX5_unlikeStrips 28 = .ok (.iload_n 3, 1) ∧ decode cX5_unlikeStrips 29 = .ok (.if_icmp .ge 22, 3) ∧ decode cX5_unlikeStrips 32 = .ok (.aload_n 0, 1) := by decide +kernel
theorem e_X5_unlikeStrips_2 : decode cX5_unlikeStrips 33 = .ok (.iload_n 3, 1) ∧ decode cX5_unlikeStrips 34 = .ok (.iload 5, 2) ∧ decode cX5_unlikeStrips 36 = .ok (.invokevirtual 185, 3) ∧ decode cX5_unlikeStrips 39 = .ok (.ifCond .eq 6, 3) ∧ decode cX5_unlikeStrips 42 = .ok (.iconst 0, 1) ∧ decode cX5_unlikeStrips 43 = .ok (.istore 4, 2) ∧ decode cX5_unlikeStrips 45 = .ok (.iinc 5 1, 3) ∧ decode cX5_unlikeStrips 48 = .ok (.goto (-22), 3) ∧ decode cX5_unlikeStrips 51 = .ok (.iload 4, 2) ∧ decode cX5_unlikeStrips 53 = .ok (.ifCond .eq 6, 3) := by decide +kernel
theorem e_X5_unlikeStrips_3 : decode cX5_unlikeStrips 56 = .ok (.iinc 2 1, 3) ∧ decode cX5_unlikeStrips 59 = .ok (.iinc 3 1, 3) ∧ decode cX5_unlikeStrips 62 = .ok (.goto (-53), 3) ∧ decode cX5_unlikeStrips 65 = .ok (.iload_n 2, 1) ∧ decode cX5_unlikeStrips 66 = .ok (.ireturn, 1) := by decide +kernel
abbrev E_X5_unlikeStrips_9 (G : Kg) (l2 l3 : Int) (σ : Kmem) (Q : Int → Kmem → Prop) : Prop := Ex G WX M_X5_unlikeStrips 5 0 0 9 [(0, vA G 82), (2, vI l2), (3, vI l3)] [] σ Q
abbrev E_X5_unlikeStrips_26 (G : Kg) (l2 l3 l4 l5 : Int) (σ : Kmem) (Q : Int → Kmem → Prop) : Prop := Ex G WX M_X5_unlikeStrips 5 0 0 26 [(0, vA G 82), (2, vI l2), (3, vI l3), (4, vI l4), (5, vI l5)] [] σ Q
theorem S_X5_unlikeStrips {G : Kg} {σ : Kmem} {Q : Int → Kmem → Prop} {l1 : Int}  (h : Run G WX M_X5_countStrips 4 0 0 [vA G 82, vI l1] σ (fun r1 s2 => E_X5_unlikeStrips_9 G 0 0 s2 Q)) : Run G WX M_X5_unlikeStrips 5 0 0 [vA G 82, vI l1] σ Q := by
  refine Run.of (by decide +kernel) (by show (2 : Nat) ≤ 6; decide) ?_
  show Ex G WX M_X5_unlikeStrips 5 0 0 0 [(0, vA G 82), (1, vI l1)] [] σ Q
  refine R_aload_n e_X5_unlikeStrips_0.1 0 rfl ?_
  refine R_iload_n e_X5_unlikeStrips_0.2.1 1 rfl ?_
  refine R_callV (mc := 0) (ms := 0) (mc' := 0) (ms' := 0) (M' := M_X5_countStrips) (d' := 4) (as := [vI l1]) (st := []) 5 1 e_X5_unlikeStrips_0.2.2.1 (kCVof m_X5_countStrips l_X5_182) rfl (by decide) kx_82 (by decide) (by decide) rfl rfl (by show (0 : Nat) ≤ 8; decide) ?_
  refine Run.mono h (fun r1 s2 h => ?_)
  refine R_eqs (st2 := []) rfl rfl ?_
  refine R_iconst e_X5_unlikeStrips_0.2.2.2.1 ?_
  refine R_istore_n (ls2 := [(2, vI 0), (0, vA G 82), (1, vI l1)]) e_X5_unlikeStrips_0.2.2.2.2.1 (by decide) rfl ?_
  refine R_iconst e_X5_unlikeStrips_0.2.2.2.2.2.1 ?_
  refine R_istore_n (ls2 := [(3, vI 0), (2, vI 0), (0, vA G 82), (1, vI l1)]) e_X5_unlikeStrips_0.2.2.2.2.2.2.1 (by decide) rfl ?_
  refine R_ls (ls2 := [(0, vA G 82), (2, vI 0), (3, vI 0)]) [2, 1, 0] rfl ?_
  exact h
theorem S_X5_unlikeStrips_9 {G : Kg} {σ : Kmem} {Q : Int → Kmem → Prop} {l1 l2 l3 : Int}  (h : (rI l3) ∧ (rI (σ 31 5)) ∧ ((σ 31 5 ≤ l3 → Q l2 σ) ∧ (l3 < σ 31 5 → E_X5_unlikeStrips_26 G l2 l3 1 0 σ Q))) : E_X5_unlikeStrips_9 G l2 l3 σ Q := by
  refine R_iload_n e_X5_unlikeStrips_0.2.2.2.2.2.2.2.1 2 rfl ?_
  refine R_aload_n e_X5_unlikeStrips_0.2.2.2.2.2.2.2.2.1 0 rfl ?_
  refine R_getA 5 0 31 e_X5_unlikeStrips_0.2.2.2.2.2.2.2.2.2 f_X5_64 kx_82 (fun _ _ => rfl) rx_82_0 (by decide) ?_
  refine R_getI 0 5 5 e_X5_unlikeStrips_1.1 f_X5_179 (kC_self isC_31) (fun _ _ => rfl) rfl ?_
  obtain ⟨q3, h⟩ := h
  obtain ⟨q4, h⟩ := h
  refine R_icmp_ge 65 e_X5_unlikeStrips_1.2.1 (by decide) q3 q4 (fun q => ?_) (fun q => ?_)
  · replace h := h.1 q
    refine R_iload_n e_X5_unlikeStrips_3.2.2.2.1 1 rfl ?_
    exact R_ireturn e_X5_unlikeStrips_3.2.2.2.2 rfl h
  · replace h := h.2 q
    refine R_iconst e_X5_unlikeStrips_1.2.2.1 ?_
    refine R_istore (ls2 := [(4, vI 1), (0, vA G 82), (2, vI l2), (3, vI l3)]) e_X5_unlikeStrips_1.2.2.2.1 (by decide) rfl ?_
    refine R_iconst e_X5_unlikeStrips_1.2.2.2.2.1 ?_
    refine R_istore (ls2 := [(5, vI 0), (4, vI 1), (0, vA G 82), (2, vI l2), (3, vI l3)]) e_X5_unlikeStrips_1.2.2.2.2.2.1 (by decide) rfl ?_
    refine R_ls (ls2 := [(0, vA G 82), (2, vI l2), (3, vI l3), (4, vI 1), (5, vI 0)]) [2, 3, 4, 1, 0] rfl ?_
    exact h
theorem S_X5_unlikeStrips_26 {G : Kg} {σ : Kmem} {Q : Int → Kmem → Prop} {l1 l2 l3 l4 l5 : Int}  (h : (rI l5) ∧ (rI l3) ∧ ((l3 ≤ l5 → (rI l4) ∧ ((l4 = 0 → E_X5_unlikeStrips_9 G l2 (l3 + 1) σ Q) ∧ (l4 ≠ 0 → E_X5_unlikeStrips_9 G (l2 + 1) (l3 + 1) σ Q))) ∧ (l5 < l3 → Run G WX M_X5_areAlike 0 0 0 [vA G 82, vI l3, vI l5] σ (fun r8 s9 => (rI r8) ∧ ((r8 = 0 → E_X5_unlikeStrips_26 G l2 l3 l4 (l5 + 1) s9 Q) ∧ (r8 ≠ 0 → E_X5_unlikeStrips_26 G l2 l3 0 (l5 + 1) s9 Q)))))) : E_X5_unlikeStrips_26 G l2 l3 l4 l5 σ Q := by
  refine R_iload e_X5_unlikeStrips_1.2.2.2.2.2.2.1 4 rfl ?_
  refine R_iload_n e_X5_unlikeStrips_1.2.2.2.2.2.2.2.1 2 rfl ?_
  obtain ⟨q5, h⟩ := h
  obtain ⟨q6, h⟩ := h
  refine R_icmp_ge 51 e_X5_unlikeStrips_1.2.2.2.2.2.2.2.2.1 (by decide) q5 q6 (fun q => ?_) (fun q => ?_)
  · replace h := h.1 q
    refine R_iload e_X5_unlikeStrips_2.2.2.2.2.2.2.2.2.1 3 rfl ?_
    obtain ⟨q7, h⟩ := h
    refine R_if_eq 59 e_X5_unlikeStrips_2.2.2.2.2.2.2.2.2.2 (by decide) q7  (fun q => ?_) (fun q => ?_)
    · replace h := h.1 q
      refine R_iinc (ls2 := [(3, vI (l3 + 1)), (0, vA G 82), (2, vI l2), (4, vI l4), (5, vI l5)]) e_X5_unlikeStrips_3.2.1 2 rfl (by decide) rfl ?_
      refine R_goto 9 e_X5_unlikeStrips_3.2.2.1 (by decide) ?_
      refine R_ls (ls2 := [(0, vA G 82), (2, vI l2), (3, vI (l3 + 1))]) [1, 2, 0] rfl ?_
      exact h
    · replace h := h.2 q
      refine R_iinc (ls2 := [(2, vI (l2 + 1)), (0, vA G 82), (3, vI l3), (4, vI l4), (5, vI l5)]) e_X5_unlikeStrips_3.1 1 rfl (by decide) rfl ?_
      refine R_iinc (ls2 := [(3, vI (l3 + 1)), (2, vI (l2 + 1)), (0, vA G 82), (4, vI l4), (5, vI l5)]) e_X5_unlikeStrips_3.2.1 2 rfl (by decide) rfl ?_
      refine R_goto 9 e_X5_unlikeStrips_3.2.2.1 (by decide) ?_
      refine R_ls (ls2 := [(0, vA G 82), (2, vI (l2 + 1)), (3, vI (l3 + 1))]) [2, 1, 0] rfl ?_
      exact h
  · replace h := h.2 q
    refine R_aload_n e_X5_unlikeStrips_1.2.2.2.2.2.2.2.2.2 0 rfl ?_
    refine R_iload_n e_X5_unlikeStrips_2.1 2 rfl ?_
    refine R_iload e_X5_unlikeStrips_2.2.1 4 rfl ?_
    refine R_callV (mc := 0) (ms := 0) (mc' := 0) (ms' := 0) (M' := M_X5_areAlike) (d' := 0) (as := [vI l3, vI l5]) (st := []) 5 2 e_X5_unlikeStrips_2.2.2.1 (kCVof m_X5_areAlike l_X5_185) rfl (by decide) kx_82 (by decide) (by decide) rfl rfl (by show (0 : Nat) ≤ 8; decide) ?_
    refine Run.mono h (fun r8 s9 h => ?_)
    refine R_eqs (st2 := [vI r8]) rfl rfl ?_
    obtain ⟨q10, h⟩ := h
    refine R_if_eq 45 e_X5_unlikeStrips_2.2.2.2.1 (by decide) q10  (fun q => ?_) (fun q => ?_)
    · replace h := h.1 q
      refine R_iinc (ls2 := [(5, vI (l5 + 1)), (0, vA G 82), (2, vI l2), (3, vI l3), (4, vI l4)]) e_X5_unlikeStrips_2.2.2.2.2.2.2.1 4 rfl (by decide) rfl ?_
      refine R_goto 26 e_X5_unlikeStrips_2.2.2.2.2.2.2.2.1 (by decide) ?_
      refine R_ls (ls2 := [(0, vA G 82), (2, vI l2), (3, vI l3), (4, vI l4), (5, vI (l5 + 1))]) [1, 2, 3, 4, 0] rfl ?_
      exact h
    · replace h := h.2 q
      refine R_iconst e_X5_unlikeStrips_2.2.2.2.2.1 ?_
      refine R_istore (ls2 := [(4, vI 0), (0, vA G 82), (2, vI l2), (3, vI l3), (5, vI l5)]) e_X5_unlikeStrips_2.2.2.2.2.2.1 (by decide) rfl ?_
      refine R_iinc (ls2 := [(5, vI (l5 + 1)), (4, vI 0), (0, vA G 82), (2, vI l2), (3, vI l3)]) e_X5_unlikeStrips_2.2.2.2.2.2.2.1 4 rfl (by decide) rfl ?_
      refine R_goto 26 e_X5_unlikeStrips_2.2.2.2.2.2.2.2.1 (by decide) ?_
      refine R_ls (ls2 := [(0, vA G 82), (2, vI l2), (3, vI l3), (4, vI 0), (5, vI (l5 + 1))]) [2, 3, 4, 1, 0] rfl ?_
      exact h
/-! KiteLand$Plans.isStrip(I[J)Z -/
theorem e_X5_isStrip_0 : decode cX5_isStrip 0 = .ok (.iconst 0, 1) ∧ decode cX5_isStrip 1 = .ok (.istore_n 3, 1) ∧ decode cX5_isStrip 2 = .ok (.iload_n 3, 1) ∧ decode cX5_isStrip 3 = .ok (.aload_n 0, 1) ∧ decode cX5_isStrip 4 = .ok (.getfield 64, 3) ∧ decode cX5_isStrip 7 = .ok (.getfield 87, 3) ∧ decode cX5_isStrip 10 = .ok (.if_icmp .ge 27, 3) ∧ decode cX5_isStrip 13 = .ok (.aload_n 0, 1) ∧ decode cX5_isStrip 14 = .ok (.getfield 61, 3) ∧ decode cX5_isStrip 17 = .ok (.iload_n 1, 1) := by decide +kernel
theorem e_X5_isStrip_1 : decode cX5_isStrip 18 = .ok (.aaload, 1) ∧ decode cX5_isStrip 19 = .ok (.iload_n 3, 1) ∧ decode cX5_isStrip 20 = .ok (.iaload, 1) ∧ decode cX5_isStrip 21 = .ok (.i2l, 1) ∧ decode cX5_isStrip 22 = .ok (.aload_n 2, 1) ∧ decode cX5_isStrip 23 = .ok (.iload_n 3, 1) ∧ decode cX5_isStrip 24 = .ok (.laload, 1) ∧ decode cX5_isStrip 25 = .ok (.lcmp, 1) ∧ decode cX5_isStrip 26 = .ok (.ifCond .eq 5, 3) ∧ decode cX5_isStrip 29 = .ok (.iconst 0, 1) := by decide +kernel
theorem e_X5_isStrip_2 : decode cX5_isStrip 30 = .ok (.ireturn, 1) ∧ decode cX5_isStrip 31 = .ok (.iinc 3 1, 3) ∧ decode cX5_isStrip 34 = .ok (.goto (-32), 3) ∧ decode cX5_isStrip 37 = .ok (.iconst 1, 1) ∧ decode cX5_isStrip 38 = .ok (.ireturn, 1) := by decide +kernel
abbrev E_X5_isStrip_2 (G : Kg) (l1 n l3 : Int) (σ : Kmem) (Q : Int → Kmem → Prop) : Prop := Ex G WX M_X5_isStrip 0 0 0 2 [(0, vA G 82), (1, vI l1), (2, vA G n), (3, vI l3)] [] σ Q
theorem S_X5_isStrip {G : Kg} {σ : Kmem} {Q : Int → Kmem → Prop} {l1 n : Int} (hn : kArX n 21 60) (h : E_X5_isStrip_2 G l1 n 0 σ Q) : Run G WX M_X5_isStrip 0 0 0 [vA G 82, vI l1, vA G n] σ Q := by
  refine Run.of (by decide +kernel) (by show (3 : Nat) ≤ 4; decide) ?_
  show Ex G WX M_X5_isStrip 0 0 0 0 [(0, vA G 82), (1, vI l1), (2, vA G n)] [] σ Q
  refine R_iconst e_X5_isStrip_0.1 ?_
  refine R_istore_n (ls2 := [(3, vI 0), (0, vA G 82), (1, vI l1), (2, vA G n)]) e_X5_isStrip_0.2.1 (by decide) rfl ?_
  refine R_ls (ls2 := [(0, vA G 82), (1, vI l1), (2, vA G n), (3, vI 0)]) [1, 2, 3, 0] rfl ?_
  exact h
theorem S_X5_isStrip_2 {G : Kg} {σ : Kmem} {Q : Int → Kmem → Prop} {l1 n l3 : Int} (hn : kArX n 21 60) (h : (rI l3) ∧ (rI (σ 31 0)) ∧ ((σ 31 0 ≤ l3 → Q 1 σ) ∧ (l3 < σ 31 0 → (0 ≤ l1 ∧ l1 < 6) ∧ (0 ≤ l3 ∧ l3 < 9) ∧ (rI (σ (90 + l1) l3)) ∧ (0 ≤ l3 ∧ l3 < 60) ∧ (rL (σ (90 + l1) l3)) ∧ (rL (σ n l3)) ∧ ((σ (90 + l1) l3 = σ n l3 → E_X5_isStrip_2 G l1 n (l3 + 1) σ Q) ∧ (σ (90 + l1) l3 ≠ σ n l3 → Q 0 σ))))) : E_X5_isStrip_2 G l1 n l3 σ Q := by
  refine R_iload_n e_X5_isStrip_0.2.2.1 3 rfl ?_
  refine R_aload_n e_X5_isStrip_0.2.2.2.1 0 rfl ?_
  refine R_getA 5 0 31 e_X5_isStrip_0.2.2.2.2.1 f_X5_64 kx_82 (fun _ _ => rfl) rx_82_0 (by decide) ?_
  refine R_getI 0 0 0 e_X5_isStrip_0.2.2.2.2.2.1 f_X5_87 (kC_self isC_31) (fun _ _ => rfl) rfl ?_
  obtain ⟨q1, h⟩ := h
  obtain ⟨q2, h⟩ := h
  refine R_icmp_ge 37 e_X5_isStrip_0.2.2.2.2.2.2.1 (by decide) q1 q2 (fun q => ?_) (fun q => ?_)
  · replace h := h.1 q
    refine R_iconst e_X5_isStrip_2.2.2.2.1 ?_
    exact R_zreturn e_X5_isStrip_2.2.2.2.2 rfl (Or.inr rfl) h
  · replace h := h.2 q
    refine R_aload_n e_X5_isStrip_0.2.2.2.2.2.2.2.1 0 rfl ?_
    refine R_getA 5 17 89 e_X5_isStrip_0.2.2.2.2.2.2.2.2.1 f_X5_61 kx_82 (fun _ _ => rfl) rx_82_17 (by decide) ?_
    refine R_iload_n e_X5_isStrip_0.2.2.2.2.2.2.2.2.2 1 rfl ?_
    obtain ⟨q3, h⟩ := h
    refine R_aald2 6 (90 + l1) e_X5_isStrip_1.1 kxa_89 q3 (adP_at q3) (adP_n q3) ?_
    refine R_iload_n e_X5_isStrip_1.2.1 3 rfl ?_
    obtain ⟨q4, h⟩ := h
    refine R_iald 9 e_X5_isStrip_1.2.2.1 (adP_ar q3) q4 ?_
    obtain ⟨q5, h⟩ := h
    refine R_i2l e_X5_isStrip_1.2.2.2.1 q5 ?_
    refine R_aload_n e_X5_isStrip_1.2.2.2.2.1 2 rfl ?_
    refine R_iload_n e_X5_isStrip_1.2.2.2.2.2.1 3 rfl ?_
    obtain ⟨q6, h⟩ := h
    refine R_lald 60 e_X5_isStrip_1.2.2.2.2.2.2.1 (kLXa hn) q6 ?_
    obtain ⟨q7, h⟩ := h
    obtain ⟨q8, h⟩ := h
    refine R_lcmp e_X5_isStrip_1.2.2.2.2.2.2.2.1 q7 q8 ?_
    refine R_if_eq 31 e_X5_isStrip_1.2.2.2.2.2.2.2.2.1 (by decide) (kcmp_r _ _) (fun q => ?_) (fun q => ?_)
    · replace h := h.1 (kcmp_eq_t.mp q)
      refine R_iinc (ls2 := [(3, vI (l3 + 1)), (0, vA G 82), (1, vI l1), (2, vA G n)]) e_X5_isStrip_2.2.1 3 rfl (by decide) rfl ?_
      refine R_goto 2 e_X5_isStrip_2.2.2.1 (by decide) ?_
      refine R_ls (ls2 := [(0, vA G 82), (1, vI l1), (2, vA G n), (3, vI (l3 + 1))]) [1, 2, 3, 0] rfl ?_
      exact h
    · replace h := h.2 (kcmp_eq_f.mp q)
      refine R_iconst e_X5_isStrip_1.2.2.2.2.2.2.2.2.2 ?_
      exact R_zreturn e_X5_isStrip_2.1 rfl (Or.inl rfl) h
