/-! KiteLandModel.plain(I)V -/
theorem e_X12_plain_0 : decode cX12_plain 0 = .ok (.iconst 0, 1) ∧ decode cX12_plain 1 = .ok (.istore_n 2, 1) ∧ decode cX12_plain 2 = .ok (.iload_n 2, 1) ∧ decode cX12_plain 3 = .ok (.sipush 514, 3) ∧ decode cX12_plain 6 = .ok (.if_icmp .ge 18, 3) ∧ decode cX12_plain 9 = .ok (.aload_n 0, 1) ∧ decode cX12_plain 10 = .ok (.getfield 7, 3) ∧ decode cX12_plain 13 = .ok (.iload_n 1, 1) ∧ decode cX12_plain 14 = .ok (.iload_n 2, 1) ∧ decode cX12_plain 15 = .ok (.iadd, 1) := by decide +kernel
theorem e_X12_plain_1 : decode cX12_plain 16 = .ok (.iconst 0, 1) ∧ decode cX12_plain 17 = .ok (.iastore, 1) ∧ decode cX12_plain 18 = .ok (.iinc 2 1, 3) ∧ decode cX12_plain 21 = .ok (.goto (-19), 3) ∧ decode cX12_plain 24 = .ok (.aload_n 0, 1) ∧ decode cX12_plain 25 = .ok (.getfield 7, 3) ∧ decode cX12_plain 28 = .ok (.iload_n 1, 1) ∧ decode cX12_plain 29 = .ok (.iconst 5, 1) ∧ decode cX12_plain 30 = .ok (.iadd, 1) ∧ decode cX12_plain 31 = .ok (.bipush 6, 2) := by decide +kernel
theorem e_X12_plain_2 : decode cX12_plain 33 = .ok (.iastore, 1) ∧ decode cX12_plain 34 = .ok (.iconst 0, 1) ∧ decode cX12_plain 35 = .ok (.istore_n 2, 1) ∧ decode cX12_plain 36 = .ok (.iload_n 2, 1) ∧ decode cX12_plain 37 = .ok (.bipush 12, 2) ∧ decode cX12_plain 39 = .ok (.if_icmp .ge 39, 3) ∧ decode cX12_plain 42 = .ok (.aload_n 0, 1) ∧ decode cX12_plain 43 = .ok (.getfield 7, 3) ∧ decode cX12_plain 46 = .ok (.iload_n 1, 1) ∧ decode cX12_plain 47 = .ok (.bipush 10, 2) := by decide +kernel
theorem e_X12_plain_3 : decode cX12_plain 49 = .ok (.iadd, 1) ∧ decode cX12_plain 50 = .ok (.iconst 2, 1) ∧ decode cX12_plain 51 = .ok (.iload_n 2, 1) ∧ decode cX12_plain 52 = .ok (.imul, 1) ∧ decode cX12_plain 53 = .ok (.iadd, 1) ∧ decode cX12_plain 54 = .ok (.iconst 2, 1) ∧ decode cX12_plain 55 = .ok (.iastore, 1) ∧ decode cX12_plain 56 = .ok (.aload_n 0, 1) ∧ decode cX12_plain 57 = .ok (.getfield 7, 3) ∧ decode cX12_plain 60 = .ok (.iload_n 1, 1) := by decide +kernel
theorem e_X12_plain_4 : decode cX12_plain 61 = .ok (.bipush 10, 2) ∧ decode cX12_plain 63 = .ok (.iadd, 1) ∧ decode cX12_plain 64 = .ok (.iconst 2, 1) ∧ decode cX12_plain 65 = .ok (.iload_n 2, 1) ∧ decode cX12_plain 66 = .ok (.imul, 1) ∧ decode cX12_plain 67 = .ok (.iadd, 1) ∧ decode cX12_plain 68 = .ok (.iconst 1, 1) ∧ decode cX12_plain 69 = .ok (.iadd, 1) ∧ decode cX12_plain 70 = .ok (.iconst 2, 1) ∧ decode cX12_plain 71 = .ok (.iastore, 1) := by decide +kernel
theorem e_X12_plain_5 : decode cX12_plain 72 = .ok (.iinc 2 1, 3) ∧ decode cX12_plain 75 = .ok (.goto (-39), 3) ∧ decode cX12_plain 78 = .ok (.aload_n 0, 1) ∧ decode cX12_plain 79 = .ok (.getfield 7, 3) ∧ decode cX12_plain 82 = .ok (.iload_n 1, 1) ∧ decode cX12_plain 83 = .ok (.bipush 8, 2) ∧ decode cX12_plain 85 = .ok (.iadd, 1) ∧ decode cX12_plain 86 = .ok (.iconst (-1), 1) ∧ decode cX12_plain 87 = .ok (.iastore, 1) ∧ decode cX12_plain 88 = .ok (.return_, 1) := by decide +kernel
abbrev E_X12_plain_2 (G : Kg) (l1 l2 : Int) (σ : Kmem) (Q : Int → Kmem → Prop) : Prop := Ex G WM M_X12_plain 0 0 0 2 [(0, vA G 0), (1, vI l1), (2, vI l2)] [] σ Q
abbrev E_X12_plain_36 (G : Kg) (l1 l2 : Int) (σ : Kmem) (Q : Int → Kmem → Prop) : Prop := Ex G WM M_X12_plain 0 0 0 36 [(0, vA G 0), (1, vI l1), (2, vI l2)] [] σ Q
theorem S_X12_plain {G : Kg} {σ : Kmem} {Q : Int → Kmem → Prop} {l1 : Int}  (h : E_X12_plain_2 G l1 0 σ Q) : Run G WM M_X12_plain 0 0 0 [vA G 0, vI l1] σ Q := by
  refine Run.of (by decide +kernel) (by show (2 : Nat) ≤ 3; decide) ?_
  show Ex G WM M_X12_plain 0 0 0 0 [(0, vA G 0), (1, vI l1)] [] σ Q
  refine R_iconst e_X12_plain_0.1 ?_
  refine R_istore_n (ls2 := [(2, vI 0), (0, vA G 0), (1, vI l1)]) e_X12_plain_0.2.1 (by decide) rfl ?_
  refine R_ls (ls2 := [(0, vA G 0), (1, vI l1), (2, vI 0)]) [1, 2, 0] rfl ?_
  exact h
theorem S_X12_plain_2 {G : Kg} {σ : Kmem} {Q : Int → Kmem → Prop} {l1 l2 : Int}  (h : (rI l2) ∧ ((514 ≤ l2 → (0 ≤ l1 + 5 ∧ l1 + 5 < 3598) ∧ E_X12_plain_36 G l1 0 (kup σ 1 (l1 + 5) 6) Q) ∧ (l2 < 514 → (0 ≤ l1 + l2 ∧ l1 + l2 < 3598) ∧ E_X12_plain_2 G l1 (l2 + 1) (kup σ 1 (l1 + l2) 0) Q))) : E_X12_plain_2 G l1 l2 σ Q := by
  refine R_iload_n e_X12_plain_0.2.2.1 2 rfl ?_
  refine R_sipush e_X12_plain_0.2.2.2.1 (by decide) ?_
  obtain ⟨q1, h⟩ := h
  refine R_icmp_ge 24 e_X12_plain_0.2.2.2.2.1 (by decide) q1 (by decide) (fun q => ?_) (fun q => ?_)
  · replace h := h.1 q
    refine R_aload_n e_X12_plain_1.2.2.2.2.1 0 rfl ?_
    refine R_getA 12 0 1 e_X12_plain_1.2.2.2.2.2.1 f_X12_7 km_0 (fun _ _ => rfl) rm_0_0 (by decide) ?_
    refine R_iload_n e_X12_plain_1.2.2.2.2.2.2.1 1 rfl ?_
    refine R_iconst e_X12_plain_1.2.2.2.2.2.2.2.1 ?_
    refine R_iadd e_X12_plain_1.2.2.2.2.2.2.2.2.1 ?_
    refine R_bipush e_X12_plain_1.2.2.2.2.2.2.2.2.2 (by decide) ?_
    obtain ⟨q2, h⟩ := h
    refine R_iast 3598 WM_ok e_X12_plain_2.1 kma_1 q2 ?_
    refine R_iconst e_X12_plain_2.2.1 ?_
    refine R_istore_n (ls2 := [(2, vI 0), (0, vA G 0), (1, vI l1)]) e_X12_plain_2.2.2.1 (by decide) rfl ?_
    refine R_ls (ls2 := [(0, vA G 0), (1, vI l1), (2, vI 0)]) [1, 2, 0] rfl ?_
    exact h
  · replace h := h.2 q
    refine R_aload_n e_X12_plain_0.2.2.2.2.2.1 0 rfl ?_
    refine R_getA 12 0 1 e_X12_plain_0.2.2.2.2.2.2.1 f_X12_7 km_0 (fun _ _ => rfl) rm_0_0 (by decide) ?_
    refine R_iload_n e_X12_plain_0.2.2.2.2.2.2.2.1 1 rfl ?_
    refine R_iload_n e_X12_plain_0.2.2.2.2.2.2.2.2.1 2 rfl ?_
    refine R_iadd e_X12_plain_0.2.2.2.2.2.2.2.2.2 ?_
    refine R_iconst e_X12_plain_1.1 ?_
    obtain ⟨q3, h⟩ := h
    refine R_iast 3598 WM_ok e_X12_plain_1.2.1 kma_1 q3 ?_
    refine R_iinc (ls2 := [(2, vI (l2 + 1)), (0, vA G 0), (1, vI l1)]) e_X12_plain_1.2.2.1 2 rfl (by decide) rfl ?_
    refine R_goto 2 e_X12_plain_1.2.2.2.1 (by decide) ?_
    refine R_ls (ls2 := [(0, vA G 0), (1, vI l1), (2, vI (l2 + 1))]) [1, 2, 0] rfl ?_
    exact h
theorem S_X12_plain_36 {G : Kg} {σ : Kmem} {Q : Int → Kmem → Prop} {l1 l2 : Int}  (h : (rI l2) ∧ ((12 ≤ l2 → (0 ≤ l1 + 8 ∧ l1 + 8 < 3598) ∧ Q 0 (kup σ 1 (l1 + 8) (-1))) ∧ (l2 < 12 → (0 ≤ (l1 + 10) + (2 * l2) ∧ (l1 + 10) + (2 * l2) < 3598) ∧ (0 ≤ ((l1 + 10) + (2 * l2)) + 1 ∧ ((l1 + 10) + (2 * l2)) + 1 < 3598) ∧ E_X12_plain_36 G l1 (l2 + 1) (kup (kup σ 1 ((l1 + 10) + (2 * l2)) 2) 1 (((l1 + 10) + (2 * l2)) + 1) 2) Q))) : E_X12_plain_36 G l1 l2 σ Q := by
  refine R_iload_n e_X12_plain_2.2.2.2.1 2 rfl ?_
  refine R_bipush e_X12_plain_2.2.2.2.2.1 (by decide) ?_
  obtain ⟨q4, h⟩ := h
  refine R_icmp_ge 78 e_X12_plain_2.2.2.2.2.2.1 (by decide) q4 (by decide) (fun q => ?_) (fun q => ?_)
  · replace h := h.1 q
    refine R_aload_n e_X12_plain_5.2.2.1 0 rfl ?_
    refine R_getA 12 0 1 e_X12_plain_5.2.2.2.1 f_X12_7 km_0 (fun _ _ => rfl) rm_0_0 (by decide) ?_
    refine R_iload_n e_X12_plain_5.2.2.2.2.1 1 rfl ?_
    refine R_bipush e_X12_plain_5.2.2.2.2.2.1 (by decide) ?_
    refine R_iadd e_X12_plain_5.2.2.2.2.2.2.1 ?_
    refine R_iconst e_X12_plain_5.2.2.2.2.2.2.2.1 ?_
    obtain ⟨q5, h⟩ := h
    refine R_iast 3598 WM_ok e_X12_plain_5.2.2.2.2.2.2.2.2.1 kma_1 q5 ?_
    exact R_return e_X12_plain_5.2.2.2.2.2.2.2.2.2 rfl h
  · replace h := h.2 q
    refine R_aload_n e_X12_plain_2.2.2.2.2.2.2.1 0 rfl ?_
    refine R_getA 12 0 1 e_X12_plain_2.2.2.2.2.2.2.2.1 f_X12_7 km_0 (fun _ _ => rfl) rm_0_0 (by decide) ?_
    refine R_iload_n e_X12_plain_2.2.2.2.2.2.2.2.2.1 1 rfl ?_
    refine R_bipush e_X12_plain_2.2.2.2.2.2.2.2.2.2 (by decide) ?_
    refine R_iadd e_X12_plain_3.1 ?_
    refine R_iconst e_X12_plain_3.2.1 ?_
    refine R_iload_n e_X12_plain_3.2.2.1 2 rfl ?_
    refine R_imul e_X12_plain_3.2.2.2.1 ?_
    refine R_iadd e_X12_plain_3.2.2.2.2.1 ?_
    refine R_iconst e_X12_plain_3.2.2.2.2.2.1 ?_
    obtain ⟨q6, h⟩ := h
    refine R_iast 3598 WM_ok e_X12_plain_3.2.2.2.2.2.2.1 kma_1 q6 ?_
    refine R_aload_n e_X12_plain_3.2.2.2.2.2.2.2.1 0 rfl ?_
    refine R_getA 12 0 1 e_X12_plain_3.2.2.2.2.2.2.2.2.1 f_X12_7 km_0 (fun _ _ => rfl) rm_0_0 (by decide) ?_
    refine R_iload_n e_X12_plain_3.2.2.2.2.2.2.2.2.2 1 rfl ?_
    refine R_bipush e_X12_plain_4.1 (by decide) ?_
    refine R_iadd e_X12_plain_4.2.1 ?_
    refine R_iconst e_X12_plain_4.2.2.1 ?_
    refine R_iload_n e_X12_plain_4.2.2.2.1 2 rfl ?_
    refine R_imul e_X12_plain_4.2.2.2.2.1 ?_
    refine R_iadd e_X12_plain_4.2.2.2.2.2.1 ?_
    refine R_iconst e_X12_plain_4.2.2.2.2.2.2.1 ?_
    refine R_iadd e_X12_plain_4.2.2.2.2.2.2.2.1 ?_
    refine R_iconst e_X12_plain_4.2.2.2.2.2.2.2.2.1 ?_
    obtain ⟨q7, h⟩ := h
    refine R_iast 3598 WM_ok e_X12_plain_4.2.2.2.2.2.2.2.2.2 kma_1 q7 ?_
    refine R_iinc (ls2 := [(2, vI (l2 + 1)), (0, vA G 0), (1, vI l1)]) e_X12_plain_5.1 2 rfl (by decide) rfl ?_
    refine R_goto 36 e_X12_plain_5.2.1 (by decide) ?_
    refine R_ls (ls2 := [(0, vA G 0), (1, vI l1), (2, vI (l2 + 1))]) [1, 2, 0] rfl ?_
    exact h
/-! KiteLandModel.status()I -/
theorem e_X12_status_0 : decode cX12_status 0 = .ok (.aload_n 0, 1) ∧ decode cX12_status 1 = .ok (.getfield 87, 3) ∧ decode cX12_status 4 = .ok (.ireturn, 1) := by decide +kernel
theorem S_X12_status {G : Kg} {σ : Kmem} {Q : Int → Kmem → Prop}  (h : Q (σ 0 2) σ) : Run G WM M_X12_status 0 0 0 [vA G 0] σ Q := by
  refine Run.of (by decide +kernel) (by show (1 : Nat) ≤ 1; decide) ?_
  show Ex G WM M_X12_status 0 0 0 0 [(0, vA G 0)] [] σ Q
  refine R_aload_n e_X12_status_0.1 0 rfl ?_
  refine R_getI 12 2 2 e_X12_status_0.2.1 f_X12_87 km_0 (fun _ _ => rfl) rfl ?_
  exact R_ireturn e_X12_status_0.2.2 rfl h
/-! KiteLandModel.top()J -/
theorem e_X12_top_0 : decode cX12_top 0 = .ok (.aload_n 0, 1) ∧ decode cX12_top 1 = .ok (.getfield 90, 3) ∧ decode cX12_top 4 = .ok (.lreturn, 1) := by decide +kernel
theorem S_X12_top {G : Kg} {σ : Kmem} {Q : Int → Kmem → Prop}  (h : Q (σ 0 3) σ) : Run G WM M_X12_top 0 0 0 [vA G 0] σ Q := by
  refine Run.of (by decide +kernel) (by show (1 : Nat) ≤ 1; decide) ?_
  show Ex G WM M_X12_top 0 0 0 0 [(0, vA G 0)] [] σ Q
  refine R_aload_n e_X12_top_0.1 0 rfl ?_
  refine R_getL 12 3 3 e_X12_top_0.2.1 f_X12_90 km_0 (fun _ _ => rfl) rfl ?_
  exact R_lreturn e_X12_top_0.2.2 rfl h
/-! KiteLandModel.bottom()J -/
theorem e_X12_bottom_0 : decode cX12_bottom 0 = .ok (.aload_n 0, 1) ∧ decode cX12_bottom 1 = .ok (.getfield 17, 3) ∧ decode cX12_bottom 4 = .ok (.lreturn, 1) := by decide +kernel
theorem S_X12_bottom {G : Kg} {σ : Kmem} {Q : Int → Kmem → Prop}  (h : Q (σ 0 4) σ) : Run G WM M_X12_bottom 0 0 0 [vA G 0] σ Q := by
  refine Run.of (by decide +kernel) (by show (1 : Nat) ≤ 1; decide) ?_
  show Ex G WM M_X12_bottom 0 0 0 0 [(0, vA G 0)] [] σ Q
  refine R_aload_n e_X12_bottom_0.1 0 rfl ?_
  refine R_getL 12 4 4 e_X12_bottom_0.2.1 f_X12_17 km_0 (fun _ _ => rfl) rfl ?_
  exact R_lreturn e_X12_bottom_0.2.2 rfl h
/-! KiteLandModel.is(I)Z -/
theorem e_X12_is_0 : decode cX12_is 0 = .ok (.aload_n 0, 1) ∧ decode cX12_is 1 = .ok (.iload_n 1, 1) ∧ decode cX12_is 2 = .ok (.putfield 87, 3) ∧ decode cX12_is 5 = .ok (.iload_n 1, 1) ∧ decode cX12_is 6 = .ok (.ifCond .ne 7, 3) ∧ decode cX12_is 9 = .ok (.iconst 1, 1) ∧ decode cX12_is 10 = .ok (.goto 4, 3) ∧ decode cX12_is 13 = .ok (.iconst 0, 1) ∧ decode cX12_is 14 = .ok (.ireturn, 1) := by decide +kernel
theorem S_X12_is {G : Kg} {σ : Kmem} {Q : Int → Kmem → Prop} {l1 : Int}  (h : (rI l1) ∧ ((l1 ≠ 0 → Q 0 (kup σ 0 2 l1)) ∧ (l1 = 0 → Q 1 (kup σ 0 2 l1)))) : Run G WM M_X12_is 0 0 0 [vA G 0, vI l1] σ Q := by
  refine Run.of (by decide +kernel) (by show (2 : Nat) ≤ 2; decide) ?_
  show Ex G WM M_X12_is 0 0 0 0 [(0, vA G 0), (1, vI l1)] [] σ Q
  refine R_aload_n e_X12_is_0.1 0 rfl ?_
  refine R_iload_n e_X12_is_0.2.1 1 rfl ?_
  refine R_putI 12 2 2 WM_ok e_X12_is_0.2.2.1 f_X12_87 km_0 rfl rfl rfl ?_
  refine R_iload_n e_X12_is_0.2.2.2.1 1 rfl ?_
  obtain ⟨q1, h⟩ := h
  refine R_if_ne 13 e_X12_is_0.2.2.2.2.1 (by decide) q1  (fun q => ?_) (fun q => ?_)
  · replace h := h.1 q
    refine R_iconst e_X12_is_0.2.2.2.2.2.2.2.1 ?_
    exact R_zreturn e_X12_is_0.2.2.2.2.2.2.2.2 rfl (Or.inl rfl) h
  · replace h := h.2 q
    refine R_iconst e_X12_is_0.2.2.2.2.2.1 ?_
    refine R_goto 14 e_X12_is_0.2.2.2.2.2.2.1 (by decide) ?_
    exact R_zreturn e_X12_is_0.2.2.2.2.2.2.2.2 rfl (Or.inr rfl) h
/-! KiteLandModel.refuse(I)I -/
theorem e_X12_refuse_0 : decode cX12_refuse 0 = .ok (.aload_n 0, 1) ∧ decode cX12_refuse 1 = .ok (.iload_n 1, 1) ∧ decode cX12_refuse 2 = .ok (.putfield 87, 3) ∧ decode cX12_refuse 5 = .ok (.iconst (-1), 1) ∧ decode cX12_refuse 6 = .ok (.ireturn, 1) := by decide +kernel
theorem S_X12_refuse {G : Kg} {σ : Kmem} {Q : Int → Kmem → Prop} {l1 : Int}  (h : Q (-1) (kup σ 0 2 l1)) : Run G WM M_X12_refuse 0 0 0 [vA G 0, vI l1] σ Q := by
  refine Run.of (by decide +kernel) (by show (2 : Nat) ≤ 2; decide) ?_
  show Ex G WM M_X12_refuse 0 0 0 0 [(0, vA G 0), (1, vI l1)] [] σ Q
  refine R_aload_n e_X12_refuse_0.1 0 rfl ?_
  refine R_iload_n e_X12_refuse_0.2.1 1 rfl ?_
  refine R_putI 12 2 2 WM_ok e_X12_refuse_0.2.2.1 f_X12_87 km_0 rfl rfl rfl ?_
  refine R_iconst e_X12_refuse_0.2.2.2.1 ?_
  exact R_ireturn e_X12_refuse_0.2.2.2.2 rfl h
/-! KiteLandModel.gives(I)I -/
theorem e_X12_gives_0 : decode cX12_gives 0 = .ok (.aload_n 0, 1) ∧ decode cX12_gives 1 = .ok (.iconst 0, 1) ∧ decode cX12_gives 2 = .ok (.putfield 87, 3) ∧ decode cX12_gives 5 = .ok (.iload_n 1, 1) ∧ decode cX12_gives 6 = .ok (.ireturn, 1) := by decide +kernel
theorem S_X12_gives {G : Kg} {σ : Kmem} {Q : Int → Kmem → Prop} {l1 : Int}  (h : Q l1 (kup σ 0 2 0)) : Run G WM M_X12_gives 0 0 0 [vA G 0, vI l1] σ Q := by
  refine Run.of (by decide +kernel) (by show (2 : Nat) ≤ 2; decide) ?_
  show Ex G WM M_X12_gives 0 0 0 0 [(0, vA G 0), (1, vI l1)] [] σ Q
  refine R_aload_n e_X12_gives_0.1 0 rfl ?_
  refine R_iconst e_X12_gives_0.2.1 ?_
  refine R_putI 12 2 2 WM_ok e_X12_gives_0.2.2.1 f_X12_87 km_0 rfl rfl rfl ?_
  refine R_iload_n e_X12_gives_0.2.2.2.1 1 rfl ?_
  exact R_ireturn e_X12_gives_0.2.2.2.2 rfl h
/-! KiteLandModel.orNone(I)I -/
theorem e_X12_orNone_0 : decode cX12_orNone 0 = .ok (.iload_n 1, 1) ∧ decode cX12_orNone 1 = .ok (.iconst (-1), 1) ∧ decode cX12_orNone 2 = .ok (.if_icmp .ne 12, 3) ∧ decode cX12_orNone 5 = .ok (.aload_n 0, 1) ∧ decode cX12_orNone 6 = .ok (.bipush 6, 2) ∧ decode cX12_orNone 8 = .ok (.invokevirtual 93, 3) ∧ decode cX12_orNone 11 = .ok (.goto 8, 3) ∧ decode cX12_orNone 14 = .ok (.aload_n 0, 1) ∧ decode cX12_orNone 15 = .ok (.iload_n 1, 1) ∧ decode cX12_orNone 16 = .ok (.invokevirtual 97, 3) := by decide +kernel
theorem e_X12_orNone_1 : decode cX12_orNone 19 = .ok (.ireturn, 1) := by decide +kernel
theorem S_X12_orNone {G : Kg} {σ : Kmem} {Q : Int → Kmem → Prop} {l1 : Int}  (h : (rI l1) ∧ ((l1 ≠ -1 → Run G WM M_X12_gives 0 0 0 [vA G 0, vI l1] σ (fun r2 s3 => Q r2 s3)) ∧ (l1 = -1 → Run G WM M_X12_refuse 0 0 0 [vA G 0, vI 6] σ (fun r4 s5 => Q r4 s5)))) : Run G WM M_X12_orNone 1 0 0 [vA G 0, vI l1] σ Q := by
  refine Run.of (by decide +kernel) (by show (2 : Nat) ≤ 2; decide) ?_
  show Ex G WM M_X12_orNone 1 0 0 0 [(0, vA G 0), (1, vI l1)] [] σ Q
  refine R_iload_n e_X12_orNone_0.1 1 rfl ?_
  refine R_iconst e_X12_orNone_0.2.1 ?_
  obtain ⟨q1, h⟩ := h
  refine R_icmp_ne 14 e_X12_orNone_0.2.2.1 (by decide) q1 (by decide) (fun q => ?_) (fun q => ?_)
  · replace h := h.1 q
    refine R_aload_n e_X12_orNone_0.2.2.2.2.2.2.2.1 0 rfl ?_
    refine R_iload_n e_X12_orNone_0.2.2.2.2.2.2.2.2.1 1 rfl ?_
    refine R_callV (mc := 0) (ms := 0) (mc' := 0) (ms' := 0) (M' := M_X12_gives) (d' := 0) (as := [vI l1]) (st := []) 12 1 e_X12_orNone_0.2.2.2.2.2.2.2.2.2 (kCVof m_X12_gives l_X12_97) rfl (by decide) km_0 (by decide) (by decide) rfl rfl (by show (0 : Nat) ≤ 8; decide) ?_
    refine Run.mono h (fun r2 s3 h => ?_)
    refine R_eqs (st2 := [vI r2]) rfl rfl ?_
    exact R_ireturn e_X12_orNone_1 rfl h
  · replace h := h.2 q
    refine R_aload_n e_X12_orNone_0.2.2.2.1 0 rfl ?_
    refine R_bipush e_X12_orNone_0.2.2.2.2.1 (by decide) ?_
    refine R_callV (mc := 0) (ms := 0) (mc' := 0) (ms' := 0) (M' := M_X12_refuse) (d' := 0) (as := [vI 6]) (st := []) 12 1 e_X12_orNone_0.2.2.2.2.2.1 (kCVof m_X12_refuse l_X12_93) rfl (by decide) km_0 (by decide) (by decide) rfl rfl (by show (0 : Nat) ≤ 8; decide) ?_
    refine Run.mono h (fun r4 s5 h => ?_)
    refine R_eqs (st2 := [vI r4]) rfl rfl ?_
    refine R_goto 19 e_X12_orNone_0.2.2.2.2.2.2.1 (by decide) ?_
    exact R_ireturn e_X12_orNone_1 rfl h
/-! KiteLandModel.tellsBy(JJ)Z -/
theorem e_X12_tellsBy_0 : decode cX12_tellsBy 0 = .ok (.lload_n 1, 1) ∧ decode cX12_tellsBy 1 = .ok (.lstore 5, 2) ∧ decode cX12_tellsBy 3 = .ok (.lload_n 3, 1) ∧ decode cX12_tellsBy 4 = .ok (.lstore 7, 2) ∧ decode cX12_tellsBy 6 = .ok (.lload 7, 2) ∧ decode cX12_tellsBy 8 = .ok (.lconst 0, 1) ∧ decode cX12_tellsBy 9 = .ok (.lcmp, 1) ∧ decode cX12_tellsBy 10 = .ok (.ifCond .eq 21, 3) ∧ decode cX12_tellsBy 13 = .ok (.lload 5, 2) ∧ decode cX12_tellsBy 15 = .ok (.lload 7, 2) := by decide +kernel
theorem e_X12_tellsBy_1 : decode cX12_tellsBy 17 = .ok (.lrem, 1) ∧ decode cX12_tellsBy 18 = .ok (.lstore 9, 2) ∧ decode cX12_tellsBy 20 = .ok (.lload 7, 2) ∧ decode cX12_tellsBy 22 = .ok (.lstore 5, 2) ∧ decode cX12_tellsBy 24 = .ok (.lload 9, 2) ∧ decode cX12_tellsBy 26 = .ok (.lstore 7, 2) ∧ decode cX12_tellsBy 28 = .ok (.goto (-22), 3) ∧ decode cX12_tellsBy 31 = .ok (.aload_n 0, 1) ∧ decode cX12_tellsBy 32 = .ok (.lload_n 1, 1) ∧ decode cX12_tellsBy 33 = .ok (.lload 5, 2) := by decide +kernel
theorem e_X12_tellsBy_2 : decode cX12_tellsBy 35 = .ok (.ldiv, 1) ∧ decode cX12_tellsBy 36 = .ok (.putfield 90, 3) ∧ decode cX12_tellsBy 39 = .ok (.aload_n 0, 1) ∧ decode cX12_tellsBy 40 = .ok (.lload_n 3, 1) ∧ decode cX12_tellsBy 41 = .ok (.lload 5, 2) ∧ decode cX12_tellsBy 43 = .ok (.ldiv, 1) ∧ decode cX12_tellsBy 44 = .ok (.putfield 17, 3) ∧ decode cX12_tellsBy 47 = .ok (.aload_n 0, 1) ∧ decode cX12_tellsBy 48 = .ok (.iconst 0, 1) ∧ decode cX12_tellsBy 49 = .ok (.invokevirtual 100, 3) := by decide +kernel
theorem e_X12_tellsBy_3 : decode cX12_tellsBy 52 = .ok (.ireturn, 1) := by decide +kernel
abbrev E_X12_tellsBy_6 (G : Kg) (l1 l3 l5 l7 : Int) (σ : Kmem) (Q : Int → Kmem → Prop) : Prop := Ex G WM M_X12_tellsBy 1 0 0 6 [(0, vA G 0), (1, vL l1), (3, vL l3), (5, vL l5), (7, vL l7)] [] σ Q
theorem S_X12_tellsBy {G : Kg} {σ : Kmem} {Q : Int → Kmem → Prop} {l1 l3 : Int}  (h : E_X12_tellsBy_6 G l1 l3 l1 l3 σ Q) : Run G WM M_X12_tellsBy 1 0 0 [vA G 0, vL l1, vL l3] σ Q := by
  refine Run.of (by decide +kernel) (by show (5 : Nat) ≤ 11; decide) ?_
  show Ex G WM M_X12_tellsBy 1 0 0 0 [(0, vA G 0), (1, vL l1), (3, vL l3)] [] σ Q
  refine R_lload_n e_X12_tellsBy_0.1 1 rfl ?_
  refine R_lstore (ls2 := [(5, vL l1), (0, vA G 0), (1, vL l1), (3, vL l3)]) e_X12_tellsBy_0.2.1 (by decide) rfl ?_
  refine R_lload_n e_X12_tellsBy_0.2.2.1 3 rfl ?_
  refine R_lstore (ls2 := [(7, vL l3), (5, vL l1), (0, vA G 0), (1, vL l1), (3, vL l3)]) e_X12_tellsBy_0.2.2.2.1 (by decide) rfl ?_
  refine R_ls (ls2 := [(0, vA G 0), (1, vL l1), (3, vL l3), (5, vL l1), (7, vL l3)]) [2, 3, 4, 1, 0] rfl ?_
  exact h
theorem S_X12_tellsBy_6 {G : Kg} {σ : Kmem} {Q : Int → Kmem → Prop} {l1 l3 l5 l7 : Int}  (h : (rL l7) ∧ ((l7 = 0 → (0 ≤ l1 ∧ l1 ≤ 9223372036854775807) ∧ (0 < l5 ∧ l5 ≤ 9223372036854775807) ∧ (0 ≤ l3 ∧ l3 ≤ 9223372036854775807) ∧ (0 < l5 ∧ l5 ≤ 9223372036854775807) ∧ Run G WM M_X12_is 0 0 0 [vA G 0, vI 0] (kup (kup σ 0 3 (l1 / l5)) 0 4 (l3 / l5)) (fun r6 s7 => (r6 = 0 ∨ r6 = 1) ∧ Q r6 s7)) ∧ (l7 ≠ 0 → (0 ≤ l5 ∧ l5 ≤ 9223372036854775807) ∧ (0 < l7 ∧ l7 ≤ 9223372036854775807) ∧ E_X12_tellsBy_6 G l1 l3 l7 (l5 % l7) σ Q))) : E_X12_tellsBy_6 G l1 l3 l5 l7 σ Q := by
  refine R_lload e_X12_tellsBy_0.2.2.2.2.1 4 rfl ?_
  refine R_lconst 0 e_X12_tellsBy_0.2.2.2.2.2.1 (by decide) ?_
  obtain ⟨q1, h⟩ := h
  refine R_lcmp e_X12_tellsBy_0.2.2.2.2.2.2.1 q1 (by decide) ?_
  refine R_if_eq 31 e_X12_tellsBy_0.2.2.2.2.2.2.2.1 (by decide) (kcmp_r _ _) (fun q => ?_) (fun q => ?_)
  · replace h := h.1 (kcmp_eq_t.mp q)
    refine R_aload_n e_X12_tellsBy_1.2.2.2.2.2.2.2.1 0 rfl ?_
    refine R_lload_n e_X12_tellsBy_1.2.2.2.2.2.2.2.2.1 1 rfl ?_
    refine R_lload e_X12_tellsBy_1.2.2.2.2.2.2.2.2.2 3 rfl ?_
    obtain ⟨q2, h⟩ := h
    obtain ⟨q3, h⟩ := h
    refine R_ldiv e_X12_tellsBy_2.1 q2 q3 ?_
    refine R_putL 12 3 3 WM_ok e_X12_tellsBy_2.2.1 f_X12_90 km_0 rfl rfl rfl ?_
    refine R_aload_n e_X12_tellsBy_2.2.2.1 0 rfl ?_
    refine R_lload_n e_X12_tellsBy_2.2.2.2.1 2 rfl ?_
    refine R_lload e_X12_tellsBy_2.2.2.2.2.1 3 rfl ?_
    obtain ⟨q4, h⟩ := h
    obtain ⟨q5, h⟩ := h
    refine R_ldiv e_X12_tellsBy_2.2.2.2.2.2.1 q4 q5 ?_
    refine R_putL 12 4 4 WM_ok e_X12_tellsBy_2.2.2.2.2.2.2.1 f_X12_17 km_0 rfl rfl rfl ?_
    refine R_aload_n e_X12_tellsBy_2.2.2.2.2.2.2.2.1 0 rfl ?_
    refine R_iconst e_X12_tellsBy_2.2.2.2.2.2.2.2.2.1 ?_
    refine R_callV (mc := 0) (ms := 0) (mc' := 0) (ms' := 0) (M' := M_X12_is) (d' := 0) (as := [vI 0]) (st := []) 12 1 e_X12_tellsBy_2.2.2.2.2.2.2.2.2.2 (kCVof m_X12_is l_X12_100) rfl (by decide) km_0 (by decide) (by decide) rfl rfl (by show (0 : Nat) ≤ 8; decide) ?_
    refine Run.mono h (fun r6 s7 h => ?_)
    refine R_eqs (st2 := [vI r6]) rfl rfl ?_
    obtain ⟨q8, h⟩ := h
    exact R_zreturn e_X12_tellsBy_3 rfl q8 h
  · replace h := h.2 (kcmp_eq_f.mp q)
    refine R_lload e_X12_tellsBy_0.2.2.2.2.2.2.2.2.1 3 rfl ?_
    refine R_lload e_X12_tellsBy_0.2.2.2.2.2.2.2.2.2 4 rfl ?_
    obtain ⟨q9, h⟩ := h
    obtain ⟨q10, h⟩ := h
    refine R_lrem e_X12_tellsBy_1.1 q9 q10 ?_
    refine R_lstore (ls2 := [(9, vL (l5 % l7)), (0, vA G 0), (1, vL l1), (3, vL l3), (5, vL l5), (7, vL l7)]) e_X12_tellsBy_1.2.1 (by decide) rfl ?_
    refine R_lload e_X12_tellsBy_1.2.2.1 5 rfl ?_
    refine R_lstore (ls2 := [(5, vL l7), (9, vL (l5 % l7)), (0, vA G 0), (1, vL l1), (3, vL l3), (7, vL l7)]) e_X12_tellsBy_1.2.2.2.1 (by decide) rfl ?_
    refine R_lload e_X12_tellsBy_1.2.2.2.2.1 1 rfl ?_
    refine R_lstore (ls2 := [(7, vL (l5 % l7)), (5, vL l7), (9, vL (l5 % l7)), (0, vA G 0), (1, vL l1), (3, vL l3)]) e_X12_tellsBy_1.2.2.2.2.2.1 (by decide) rfl ?_
    refine R_goto 6 e_X12_tellsBy_1.2.2.2.2.2.2.1 (by decide) ?_
    refine R_ls (ls2 := [(0, vA G 0), (1, vL l1), (3, vL l3), (5, vL l7), (7, vL (l5 % l7))]) [3, 4, 5, 1, 0] rfl ?_
    exact h
/-! KiteLandModel.isTray(I)Z -/
theorem e_X12_isTray_0 : decode cX12_isTray 0 = .ok (.iload_n 0, 1) ∧ decode cX12_isTray 1 = .ok (.ifCond .lt 12, 3) ∧ decode cX12_isTray 4 = .ok (.iload_n 0, 1) ∧ decode cX12_isTray 5 = .ok (.iconst 4, 1) ∧ decode cX12_isTray 6 = .ok (.if_icmp .ge 7, 3) ∧ decode cX12_isTray 9 = .ok (.iconst 1, 1) ∧ decode cX12_isTray 10 = .ok (.goto 4, 3) ∧ decode cX12_isTray 13 = .ok (.iconst 0, 1) ∧ decode cX12_isTray 14 = .ok (.ireturn, 1) := by decide +kernel
theorem S_X12_isTray {G : Kg} {σ : Kmem} {Q : Int → Kmem → Prop} {l0 : Int}  (h : (rI l0) ∧ ((l0 < 0 → Q 0 σ) ∧ (0 ≤ l0 → ((4 ≤ l0 → Q 0 σ) ∧ (l0 < 4 → Q 1 σ))))) : Run G WM M_X12_isTray 0 0 0 [vI l0] σ Q := by
  refine Run.of (by decide +kernel) (by show (1 : Nat) ≤ 1; decide) ?_
  show Ex G WM M_X12_isTray 0 0 0 0 [(0, vI l0)] [] σ Q
  refine R_iload_n e_X12_isTray_0.1 0 rfl ?_
  obtain ⟨q1, h⟩ := h
  refine R_if_lt 13 e_X12_isTray_0.2.1 (by decide) q1  (fun q => ?_) (fun q => ?_)
  · replace h := h.1 q
    refine R_iconst e_X12_isTray_0.2.2.2.2.2.2.2.1 ?_
    exact R_zreturn e_X12_isTray_0.2.2.2.2.2.2.2.2 rfl (Or.inl rfl) h
  · replace h := h.2 q
    refine R_iload_n e_X12_isTray_0.2.2.1 0 rfl ?_
    refine R_iconst e_X12_isTray_0.2.2.2.1 ?_
    refine R_icmp_ge 13 e_X12_isTray_0.2.2.2.2.1 (by decide) q1 (by decide) (fun q => ?_) (fun q => ?_)
    · replace h := h.1 q
      refine R_iconst e_X12_isTray_0.2.2.2.2.2.2.2.1 ?_
      exact R_zreturn e_X12_isTray_0.2.2.2.2.2.2.2.2 rfl (Or.inl rfl) h
    · replace h := h.2 q
      refine R_iconst e_X12_isTray_0.2.2.2.2.2.1 ?_
      refine R_goto 14 e_X12_isTray_0.2.2.2.2.2.2.1 (by decide) ?_
      exact R_zreturn e_X12_isTray_0.2.2.2.2.2.2.2.2 rfl (Or.inr rfl) h
/-! KiteLandModel.narrowed(JI)J -/
theorem e_X12_narrowed_0 : decode cX12_narrowed 0 = .ok (.iload_n 2, 1) ∧ decode cX12_narrowed 1 = .ok (.ifCond .ne 10, 3) ∧ decode cX12_narrowed 4 = .ok (.lload_n 0, 1) ∧ decode cX12_narrowed 5 = .ok (.l2i, 1) ∧ decode cX12_narrowed 6 = .ok (.i2b, 1) ∧ decode cX12_narrowed 7 = .ok (.i2l, 1) ∧ decode cX12_narrowed 8 = .ok (.goto 27, 3) ∧ decode cX12_narrowed 11 = .ok (.iload_n 2, 1) ∧ decode cX12_narrowed 12 = .ok (.iconst 1, 1) ∧ decode cX12_narrowed 13 = .ok (.if_icmp .ne 10, 3) := by decide +kernel
theorem e_X12_narrowed_1 : decode cX12_narrowed 16 = .ok (.lload_n 0, 1) ∧ decode cX12_narrowed 17 = .ok (.l2i, 1) ∧ decode cX12_narrowed 18 = .ok (.i2s, 1) ∧ decode cX12_narrowed 19 = .ok (.i2l, 1) ∧ decode cX12_narrowed 20 = .ok (.goto 15, 3) ∧ decode cX12_narrowed 23 = .ok (.iload_n 2, 1) ∧ decode cX12_narrowed 24 = .ok (.iconst 2, 1) ∧ decode cX12_narrowed 25 = .ok (.if_icmp .ne 9, 3) ∧ decode cX12_narrowed 28 = .ok (.lload_n 0, 1) ∧ decode cX12_narrowed 29 = .ok (.l2i, 1) := by decide +kernel
theorem e_X12_narrowed_2 : decode cX12_narrowed 30 = .ok (.i2l, 1) ∧ decode cX12_narrowed 31 = .ok (.goto 4, 3) ∧ decode cX12_narrowed 34 = .ok (.lload_n 0, 1) ∧ decode cX12_narrowed 35 = .ok (.lreturn, 1) := by decide +kernel
theorem S_X12_narrowed {G : Kg} {σ : Kmem} {Q : Int → Kmem → Prop} {l0 l2 : Int}  (h : (rI l2) ∧ ((l2 ≠ 0 → ((l2 ≠ 1 → ((l2 ≠ 2 → Q l0 σ) ∧ (l2 = 2 → (rI l0) ∧ Q l0 σ))) ∧ (l2 = 1 → (rI (ki2s l0)) ∧ Q (ki2s l0) σ))) ∧ (l2 = 0 → (rI (ki2b l0)) ∧ Q (ki2b l0) σ))) : Run G WM M_X12_narrowed 0 0 0 [vL l0, vI l2] σ Q := by
  refine Run.of (by decide +kernel) (by show (3 : Nat) ≤ 3; decide) ?_
  show Ex G WM M_X12_narrowed 0 0 0 0 [(0, vL l0), (2, vI l2)] [] σ Q
  refine R_iload_n e_X12_narrowed_0.1 1 rfl ?_
  obtain ⟨q1, h⟩ := h
  refine R_if_ne 11 e_X12_narrowed_0.2.1 (by decide) q1  (fun q => ?_) (fun q => ?_)
  · replace h := h.1 q
    refine R_iload_n e_X12_narrowed_0.2.2.2.2.2.2.2.1 1 rfl ?_
    refine R_iconst e_X12_narrowed_0.2.2.2.2.2.2.2.2.1 ?_
    refine R_icmp_ne 23 e_X12_narrowed_0.2.2.2.2.2.2.2.2.2 (by decide) q1 (by decide) (fun q => ?_) (fun q => ?_)
    · replace h := h.1 q
      refine R_iload_n e_X12_narrowed_1.2.2.2.2.2.1 1 rfl ?_
      refine R_iconst e_X12_narrowed_1.2.2.2.2.2.2.1 ?_
      refine R_icmp_ne 34 e_X12_narrowed_1.2.2.2.2.2.2.2.1 (by decide) q1 (by decide) (fun q => ?_) (fun q => ?_)
      · replace h := h.1 q
        refine R_lload_n e_X12_narrowed_2.2.2.1 0 rfl ?_
        exact R_lreturn e_X12_narrowed_2.2.2.2 rfl h
      · replace h := h.2 q
        refine R_lload_n e_X12_narrowed_1.2.2.2.2.2.2.2.2.1 0 rfl ?_
        refine R_l2i e_X12_narrowed_1.2.2.2.2.2.2.2.2.2 ?_
        obtain ⟨q2, h⟩ := h
        refine R_i2l e_X12_narrowed_2.1 q2 ?_
        refine R_goto 35 e_X12_narrowed_2.2.1 (by decide) ?_
        exact R_lreturn e_X12_narrowed_2.2.2.2 rfl h
    · replace h := h.2 q
      refine R_lload_n e_X12_narrowed_1.1 0 rfl ?_
      refine R_l2i e_X12_narrowed_1.2.1 ?_
      refine R_i2s e_X12_narrowed_1.2.2.1 ?_
      obtain ⟨q3, h⟩ := h
      refine R_i2l e_X12_narrowed_1.2.2.2.1 q3 ?_
      refine R_goto 35 e_X12_narrowed_1.2.2.2.2.1 (by decide) ?_
      exact R_lreturn e_X12_narrowed_2.2.2.2 rfl h
  · replace h := h.2 q
    refine R_lload_n e_X12_narrowed_0.2.2.1 0 rfl ?_
    refine R_l2i e_X12_narrowed_0.2.2.2.1 ?_
    refine R_i2b e_X12_narrowed_0.2.2.2.2.1 ?_
    obtain ⟨q4, h⟩ := h
    refine R_i2l e_X12_narrowed_0.2.2.2.2.2.1 q4 ?_
    refine R_goto 35 e_X12_narrowed_0.2.2.2.2.2.2.1 (by decide) ?_
    exact R_lreturn e_X12_narrowed_2.2.2.2 rfl h
/-! KiteLandModel.tray(III)Z -/
theorem e_X12_tray_0 : decode cX12_tray 0 = .ok (.iload_n 1, 1) ∧ decode cX12_tray 1 = .ok (.invokestatic 104, 3) ∧ decode cX12_tray 4 = .ok (.ifCond .eq 22, 3) ∧ decode cX12_tray 7 = .ok (.iload_n 2, 1) ∧ decode cX12_tray 8 = .ok (.ifCond .lt 18, 3) ∧ decode cX12_tray 11 = .ok (.iload_n 2, 1) ∧ decode cX12_tray 12 = .ok (.iconst 3, 1) ∧ decode cX12_tray 13 = .ok (.if_icmp .gt 13, 3) ∧ decode cX12_tray 16 = .ok (.iload_n 3, 1) ∧ decode cX12_tray 17 = .ok (.ifCond .lt 9, 3) := by decide +kernel
theorem e_X12_tray_1 : decode cX12_tray 20 = .ok (.iload_n 3, 1) ∧ decode cX12_tray 21 = .ok (.bipush 60, 2) ∧ decode cX12_tray 23 = .ok (.if_icmp .le 9, 3) ∧ decode cX12_tray 26 = .ok (.aload_n 0, 1) ∧ decode cX12_tray 27 = .ok (.iconst 1, 1) ∧ decode cX12_tray 28 = .ok (.invokevirtual 100, 3) ∧ decode cX12_tray 31 = .ok (.ireturn, 1) ∧ decode cX12_tray 32 = .ok (.aload_n 0, 1) ∧ decode cX12_tray 33 = .ok (.getfield 21, 3) ∧ decode cX12_tray 36 = .ok (.iload_n 1, 1) := by decide +kernel
theorem e_X12_tray_2 : decode cX12_tray 37 = .ok (.iload_n 2, 1) ∧ decode cX12_tray 38 = .ok (.iastore, 1) ∧ decode cX12_tray 39 = .ok (.aload_n 0, 1) ∧ decode cX12_tray 40 = .ok (.getfield 24, 3) ∧ decode cX12_tray 43 = .ok (.iload_n 1, 1) ∧ decode cX12_tray 44 = .ok (.iload_n 3, 1) ∧ decode cX12_tray 45 = .ok (.iastore, 1) ∧ decode cX12_tray 46 = .ok (.iconst 0, 1) ∧ decode cX12_tray 47 = .ok (.istore 4, 2) ∧ decode cX12_tray 49 = .ok (.iload 4, 2) := by decide +kernel
theorem e_X12_tray_3 : decode cX12_tray 51 = .ok (.iload_n 3, 1) ∧ decode cX12_tray 52 = .ok (.if_icmp .ge 22, 3) ∧ decode cX12_tray 55 = .ok (.aload_n 0, 1) ∧ decode cX12_tray 56 = .ok (.getfield 27, 3) ∧ decode cX12_tray 59 = .ok (.bipush 60, 2) ∧ decode cX12_tray 61 = .ok (.iload_n 1, 1) ∧ decode cX12_tray 62 = .ok (.imul, 1) ∧ decode cX12_tray 63 = .ok (.iload 4, 2) ∧ decode cX12_tray 65 = .ok (.iadd, 1) ∧ decode cX12_tray 66 = .ok (.lconst 0, 1) := by decide +kernel
theorem e_X12_tray_4 : decode cX12_tray 67 = .ok (.lastore, 1) ∧ decode cX12_tray 68 = .ok (.iinc 4 1, 3) ∧ decode cX12_tray 71 = .ok (.goto (-22), 3) ∧ decode cX12_tray 74 = .ok (.aload_n 0, 1) ∧ decode cX12_tray 75 = .ok (.iconst 0, 1) ∧ decode cX12_tray 76 = .ok (.invokevirtual 100, 3) ∧ decode cX12_tray 79 = .ok (.ireturn, 1) := by decide +kernel
abbrev E_X12_tray_49 (G : Kg) (l1 l3 l4 : Int) (σ : Kmem) (Q : Int → Kmem → Prop) : Prop := Ex G WM M_X12_tray 1 0 0 49 [(0, vA G 0), (1, vI l1), (3, vI l3), (4, vI l4)] [] σ Q
theorem S_X12_tray {G : Kg} {σ : Kmem} {Q : Int → Kmem → Prop} {l1 l2 l3 : Int}  (h : Run G WM M_X12_isTray 0 0 0 [vI l1] σ (fun r1 s2 => (rI r1) ∧ ((r1 = 0 → Run G WM M_X12_is 0 0 0 [vA G 0, vI 1] s2 (fun r4 s5 => (r4 = 0 ∨ r4 = 1) ∧ Q r4 s5)) ∧ (r1 ≠ 0 → (rI l2) ∧ ((l2 < 0 → Run G WM M_X12_is 0 0 0 [vA G 0, vI 1] s2 (fun r8 s9 => (r8 = 0 ∨ r8 = 1) ∧ Q r8 s9)) ∧ (0 ≤ l2 → ((3 < l2 → Run G WM M_X12_is 0 0 0 [vA G 0, vI 1] s2 (fun r11 s12 => (r11 = 0 ∨ r11 = 1) ∧ Q r11 s12)) ∧ (l2 ≤ 3 → (rI l3) ∧ ((l3 < 0 → Run G WM M_X12_is 0 0 0 [vA G 0, vI 1] s2 (fun r15 s16 => (r15 = 0 ∨ r15 = 1) ∧ Q r15 s16)) ∧ (0 ≤ l3 → ((l3 ≤ 60 → (0 ≤ l1 ∧ l1 < 4) ∧ (0 ≤ l1 ∧ l1 < 4) ∧ E_X12_tray_49 G l1 l3 0 (kup (kup s2 3 l1 l2) 4 l1 l3) Q) ∧ (60 < l3 → Run G WM M_X12_is 0 0 0 [vA G 0, vI 1] s2 (fun r20 s21 => (r20 = 0 ∨ r20 = 1) ∧ Q r20 s21))))))))))))) : Run G WM M_X12_tray 1 0 0 [vA G 0, vI l1, vI l2, vI l3] σ Q := by
  refine Run.of (by decide +kernel) (by show (4 : Nat) ≤ 5; decide) ?_
  show Ex G WM M_X12_tray 1 0 0 0 [(0, vA G 0), (1, vI l1), (2, vI l2), (3, vI l3)] [] σ Q
  refine R_iload_n e_X12_tray_0.1 1 rfl ?_
  refine R_callS (mc := 0) (ms := 0) (mc' := 0) (ms' := 0) (M' := M_X12_isTray) (d' := 0) (as := [vI l1]) (st := []) 1 e_X12_tray_0.2.1 (kCSof m_X12_isTray l_X12_104) (by decide) (by decide) rfl rfl (by show (0 : Nat) ≤ 8; decide) ?_
  refine Run.mono h (fun r1 s2 h => ?_)
  refine R_eqs (st2 := [vI r1]) rfl rfl ?_
  obtain ⟨q3, h⟩ := h
  refine R_if_eq 26 e_X12_tray_0.2.2.1 (by decide) q3  (fun q => ?_) (fun q => ?_)
  · replace h := h.1 q
    refine R_aload_n e_X12_tray_1.2.2.2.1 0 rfl ?_
    refine R_iconst e_X12_tray_1.2.2.2.2.1 ?_
    refine R_callV (mc := 0) (ms := 0) (mc' := 0) (ms' := 0) (M' := M_X12_is) (d' := 0) (as := [vI 1]) (st := []) 12 1 e_X12_tray_1.2.2.2.2.2.1 (kCVof m_X12_is l_X12_100) rfl (by decide) km_0 (by decide) (by decide) rfl rfl (by show (0 : Nat) ≤ 8; decide) ?_
    refine Run.mono h (fun r4 s5 h => ?_)
    refine R_eqs (st2 := [vI r4]) rfl rfl ?_
    obtain ⟨q6, h⟩ := h
    exact R_zreturn e_X12_tray_1.2.2.2.2.2.2.1 rfl q6 h
  · replace h := h.2 q
    refine R_iload_n e_X12_tray_0.2.2.2.1 2 rfl ?_
    obtain ⟨q7, h⟩ := h
    refine R_if_lt 26 e_X12_tray_0.2.2.2.2.1 (by decide) q7  (fun q => ?_) (fun q => ?_)
    · replace h := h.1 q
      refine R_aload_n e_X12_tray_1.2.2.2.1 0 rfl ?_
      refine R_iconst e_X12_tray_1.2.2.2.2.1 ?_
      refine R_callV (mc := 0) (ms := 0) (mc' := 0) (ms' := 0) (M' := M_X12_is) (d' := 0) (as := [vI 1]) (st := []) 12 1 e_X12_tray_1.2.2.2.2.2.1 (kCVof m_X12_is l_X12_100) rfl (by decide) km_0 (by decide) (by decide) rfl rfl (by show (0 : Nat) ≤ 8; decide) ?_
      refine Run.mono h (fun r8 s9 h => ?_)
      refine R_eqs (st2 := [vI r8]) rfl rfl ?_
      obtain ⟨q10, h⟩ := h
      exact R_zreturn e_X12_tray_1.2.2.2.2.2.2.1 rfl q10 h
    · replace h := h.2 q
      refine R_iload_n e_X12_tray_0.2.2.2.2.2.1 2 rfl ?_
      refine R_iconst e_X12_tray_0.2.2.2.2.2.2.1 ?_
      refine R_icmp_gt 26 e_X12_tray_0.2.2.2.2.2.2.2.1 (by decide) q7 (by decide) (fun q => ?_) (fun q => ?_)
      · replace h := h.1 q
        refine R_aload_n e_X12_tray_1.2.2.2.1 0 rfl ?_
        refine R_iconst e_X12_tray_1.2.2.2.2.1 ?_
        refine R_callV (mc := 0) (ms := 0) (mc' := 0) (ms' := 0) (M' := M_X12_is) (d' := 0) (as := [vI 1]) (st := []) 12 1 e_X12_tray_1.2.2.2.2.2.1 (kCVof m_X12_is l_X12_100) rfl (by decide) km_0 (by decide) (by decide) rfl rfl (by show (0 : Nat) ≤ 8; decide) ?_
        refine Run.mono h (fun r11 s12 h => ?_)
        refine R_eqs (st2 := [vI r11]) rfl rfl ?_
        obtain ⟨q13, h⟩ := h
        exact R_zreturn e_X12_tray_1.2.2.2.2.2.2.1 rfl q13 h
      · replace h := h.2 q
        refine R_iload_n e_X12_tray_0.2.2.2.2.2.2.2.2.1 3 rfl ?_
        obtain ⟨q14, h⟩ := h
        refine R_if_lt 26 e_X12_tray_0.2.2.2.2.2.2.2.2.2 (by decide) q14  (fun q => ?_) (fun q => ?_)
        · replace h := h.1 q
          refine R_aload_n e_X12_tray_1.2.2.2.1 0 rfl ?_
          refine R_iconst e_X12_tray_1.2.2.2.2.1 ?_
          refine R_callV (mc := 0) (ms := 0) (mc' := 0) (ms' := 0) (M' := M_X12_is) (d' := 0) (as := [vI 1]) (st := []) 12 1 e_X12_tray_1.2.2.2.2.2.1 (kCVof m_X12_is l_X12_100) rfl (by decide) km_0 (by decide) (by decide) rfl rfl (by show (0 : Nat) ≤ 8; decide) ?_
          refine Run.mono h (fun r15 s16 h => ?_)
          refine R_eqs (st2 := [vI r15]) rfl rfl ?_
          obtain ⟨q17, h⟩ := h
          exact R_zreturn e_X12_tray_1.2.2.2.2.2.2.1 rfl q17 h
        · replace h := h.2 q
          refine R_iload_n e_X12_tray_1.1 3 rfl ?_
          refine R_bipush e_X12_tray_1.2.1 (by decide) ?_
          refine R_icmp_le 32 e_X12_tray_1.2.2.1 (by decide) q14 (by decide) (fun q => ?_) (fun q => ?_)
          · replace h := h.1 q
            refine R_aload_n e_X12_tray_1.2.2.2.2.2.2.2.1 0 rfl ?_
            refine R_getA 12 5 3 e_X12_tray_1.2.2.2.2.2.2.2.2.1 f_X12_21 km_0 (fun _ _ => rfl) rm_0_5 (by decide) ?_
            refine R_iload_n e_X12_tray_1.2.2.2.2.2.2.2.2.2 1 rfl ?_
            refine R_iload_n e_X12_tray_2.1 2 rfl ?_
            obtain ⟨q18, h⟩ := h
            refine R_iast 4 WM_ok e_X12_tray_2.2.1 kma_3 q18 ?_
            refine R_aload_n e_X12_tray_2.2.2.1 0 rfl ?_
            refine R_getA 12 6 4 e_X12_tray_2.2.2.2.1 f_X12_24 km_0 (fun _ _ => rfl) rm_0_6 (by decide) ?_
            refine R_iload_n e_X12_tray_2.2.2.2.2.1 1 rfl ?_
            refine R_iload_n e_X12_tray_2.2.2.2.2.2.1 3 rfl ?_
            obtain ⟨q19, h⟩ := h
            refine R_iast 4 WM_ok e_X12_tray_2.2.2.2.2.2.2.1 kma_4 q19 ?_
            refine R_iconst e_X12_tray_2.2.2.2.2.2.2.2.1 ?_
            refine R_istore (ls2 := [(4, vI 0), (0, vA G 0), (1, vI l1), (2, vI l2), (3, vI l3)]) e_X12_tray_2.2.2.2.2.2.2.2.2.1 (by decide) rfl ?_
            refine R_ls (ls2 := [(0, vA G 0), (1, vI l1), (3, vI l3), (4, vI 0)]) [1, 2, 4, 0] rfl ?_
            exact h
          · replace h := h.2 q
            refine R_aload_n e_X12_tray_1.2.2.2.1 0 rfl ?_
            refine R_iconst e_X12_tray_1.2.2.2.2.1 ?_
            refine R_callV (mc := 0) (ms := 0) (mc' := 0) (ms' := 0) (M' := M_X12_is) (d' := 0) (as := [vI 1]) (st := []) 12 1 e_X12_tray_1.2.2.2.2.2.1 (kCVof m_X12_is l_X12_100) rfl (by decide) km_0 (by decide) (by decide) rfl rfl (by show (0 : Nat) ≤ 8; decide) ?_
            refine Run.mono h (fun r20 s21 h => ?_)
            refine R_eqs (st2 := [vI r20]) rfl rfl ?_
            obtain ⟨q22, h⟩ := h
            exact R_zreturn e_X12_tray_1.2.2.2.2.2.2.1 rfl q22 h
theorem S_X12_tray_49 {G : Kg} {σ : Kmem} {Q : Int → Kmem → Prop} {l1 l2 l3 l4 : Int}  (h : (rI l4) ∧ (rI l3) ∧ ((l3 ≤ l4 → Run G WM M_X12_is 0 0 0 [vA G 0, vI 0] σ (fun r25 s26 => (r25 = 0 ∨ r25 = 1) ∧ Q r25 s26)) ∧ (l4 < l3 → (0 ≤ (60 * l1) + l4 ∧ (60 * l1) + l4 < 240) ∧ E_X12_tray_49 G l1 l3 (l4 + 1) (kup σ 5 ((60 * l1) + l4) 0) Q))) : E_X12_tray_49 G l1 l3 l4 σ Q := by
  refine R_iload e_X12_tray_2.2.2.2.2.2.2.2.2.2 3 rfl ?_
  refine R_iload_n e_X12_tray_3.1 2 rfl ?_
  obtain ⟨q23, h⟩ := h
  obtain ⟨q24, h⟩ := h
  refine R_icmp_ge 74 e_X12_tray_3.2.1 (by decide) q23 q24 (fun q => ?_) (fun q => ?_)
  · replace h := h.1 q
    refine R_aload_n e_X12_tray_4.2.2.2.1 0 rfl ?_
    refine R_iconst e_X12_tray_4.2.2.2.2.1 ?_
    refine R_callV (mc := 0) (ms := 0) (mc' := 0) (ms' := 0) (M' := M_X12_is) (d' := 0) (as := [vI 0]) (st := []) 12 1 e_X12_tray_4.2.2.2.2.2.1 (kCVof m_X12_is l_X12_100) rfl (by decide) km_0 (by decide) (by decide) rfl rfl (by show (0 : Nat) ≤ 8; decide) ?_
    refine Run.mono h (fun r25 s26 h => ?_)
    refine R_eqs (st2 := [vI r25]) rfl rfl ?_
    obtain ⟨q27, h⟩ := h
    exact R_zreturn e_X12_tray_4.2.2.2.2.2.2 rfl q27 h
  · replace h := h.2 q
    refine R_aload_n e_X12_tray_3.2.2.1 0 rfl ?_
    refine R_getA 12 7 5 e_X12_tray_3.2.2.2.1 f_X12_27 km_0 (fun _ _ => rfl) rm_0_7 (by decide) ?_
    refine R_bipush e_X12_tray_3.2.2.2.2.1 (by decide) ?_
    refine R_iload_n e_X12_tray_3.2.2.2.2.2.1 1 rfl ?_
    refine R_imul e_X12_tray_3.2.2.2.2.2.2.1 ?_
    refine R_iload e_X12_tray_3.2.2.2.2.2.2.2.1 3 rfl ?_
    refine R_iadd e_X12_tray_3.2.2.2.2.2.2.2.2.1 ?_
    refine R_lconst 0 e_X12_tray_3.2.2.2.2.2.2.2.2.2 (by decide) ?_
    obtain ⟨q28, h⟩ := h
    refine R_last 240 WM_ok e_X12_tray_4.1 kma_5 q28 ?_
    refine R_iinc (ls2 := [(4, vI (l4 + 1)), (0, vA G 0), (1, vI l1), (3, vI l3)]) e_X12_tray_4.2.1 3 rfl (by decide) rfl ?_
    refine R_goto 49 e_X12_tray_4.2.2.1 (by decide) ?_
    refine R_ls (ls2 := [(0, vA G 0), (1, vI l1), (3, vI l3), (4, vI (l4 + 1))]) [1, 2, 3, 0] rfl ?_
    exact h
/-! KiteLandModel.wrongPlace(II)I -/
theorem e_X12_wrongPlace_0 : decode cX12_wrongPlace 0 = .ok (.iload_n 1, 1) ∧ decode cX12_wrongPlace 1 = .ok (.invokestatic 104, 3) ∧ decode cX12_wrongPlace 4 = .ok (.ifCond .ne 7, 3) ∧ decode cX12_wrongPlace 7 = .ok (.iconst 1, 1) ∧ decode cX12_wrongPlace 8 = .ok (.goto 36, 3) ∧ decode cX12_wrongPlace 11 = .ok (.aload_n 0, 1) ∧ decode cX12_wrongPlace 12 = .ok (.getfield 24, 3) ∧ decode cX12_wrongPlace 15 = .ok (.iload_n 1, 1) ∧ decode cX12_wrongPlace 16 = .ok (.iaload, 1) ∧ decode cX12_wrongPlace 17 = .ok (.iconst (-1), 1) := by decide +kernel
theorem e_X12_wrongPlace_1 : decode cX12_wrongPlace 18 = .ok (.if_icmp .ne 7, 3) ∧ decode cX12_wrongPlace 21 = .ok (.iconst 2, 1) ∧ decode cX12_wrongPlace 22 = .ok (.goto 22, 3) ∧ decode cX12_wrongPlace 25 = .ok (.iload_n 2, 1) ∧ decode cX12_wrongPlace 26 = .ok (.ifCond .lt 13, 3) ∧ decode cX12_wrongPlace 29 = .ok (.iload_n 2, 1) ∧ decode cX12_wrongPlace 30 = .ok (.aload_n 0, 1) ∧ decode cX12_wrongPlace 31 = .ok (.getfield 24, 3) ∧ decode cX12_wrongPlace 34 = .ok (.iload_n 1, 1) ∧ decode cX12_wrongPlace 35 = .ok (.iaload, 1) := by decide +kernel
theorem e_X12_wrongPlace_2 : decode cX12_wrongPlace 36 = .ok (.if_icmp .lt 7, 3) ∧ decode cX12_wrongPlace 39 = .ok (.iconst 3, 1) ∧ decode cX12_wrongPlace 40 = .ok (.goto 4, 3) ∧ decode cX12_wrongPlace 43 = .ok (.iconst 0, 1) ∧ decode cX12_wrongPlace 44 = .ok (.ireturn, 1) := by decide +kernel
theorem S_X12_wrongPlace {G : Kg} {σ : Kmem} {Q : Int → Kmem → Prop} {l1 l2 : Int}  (h : Run G WM M_X12_isTray 0 0 0 [vI l1] σ (fun r1 s2 => (rI r1) ∧ ((r1 ≠ 0 → (0 ≤ l1 ∧ l1 < 4) ∧ (rI (s2 4 l1)) ∧ ((s2 4 l1 ≠ -1 → (rI l2) ∧ ((l2 < 0 → Q 3 s2) ∧ (0 ≤ l2 → (0 ≤ l1 ∧ l1 < 4) ∧ ((l2 < s2 4 l1 → Q 0 s2) ∧ (s2 4 l1 ≤ l2 → Q 3 s2))))) ∧ (s2 4 l1 = -1 → Q 2 s2))) ∧ (r1 = 0 → Q 1 s2)))) : Run G WM M_X12_wrongPlace 1 0 0 [vA G 0, vI l1, vI l2] σ Q := by
  refine Run.of (by decide +kernel) (by show (3 : Nat) ≤ 3; decide) ?_
  show Ex G WM M_X12_wrongPlace 1 0 0 0 [(0, vA G 0), (1, vI l1), (2, vI l2)] [] σ Q
  refine R_iload_n e_X12_wrongPlace_0.1 1 rfl ?_
  refine R_callS (mc := 0) (ms := 0) (mc' := 0) (ms' := 0) (M' := M_X12_isTray) (d' := 0) (as := [vI l1]) (st := []) 1 e_X12_wrongPlace_0.2.1 (kCSof m_X12_isTray l_X12_104) (by decide) (by decide) rfl rfl (by show (0 : Nat) ≤ 8; decide) ?_
  refine Run.mono h (fun r1 s2 h => ?_)
  refine R_eqs (st2 := [vI r1]) rfl rfl ?_
  obtain ⟨q3, h⟩ := h
  refine R_if_ne 11 e_X12_wrongPlace_0.2.2.1 (by decide) q3  (fun q => ?_) (fun q => ?_)
  · replace h := h.1 q
    refine R_aload_n e_X12_wrongPlace_0.2.2.2.2.2.1 0 rfl ?_
    refine R_getA 12 6 4 e_X12_wrongPlace_0.2.2.2.2.2.2.1 f_X12_24 km_0 (fun _ _ => rfl) rm_0_6 (by decide) ?_
    refine R_iload_n e_X12_wrongPlace_0.2.2.2.2.2.2.2.1 1 rfl ?_
    obtain ⟨q4, h⟩ := h
    refine R_iald 4 e_X12_wrongPlace_0.2.2.2.2.2.2.2.2.1 kma_4 q4 ?_
    refine R_iconst e_X12_wrongPlace_0.2.2.2.2.2.2.2.2.2 ?_
    obtain ⟨q5, h⟩ := h
    refine R_icmp_ne 25 e_X12_wrongPlace_1.1 (by decide) q5 (by decide) (fun q => ?_) (fun q => ?_)
    · replace h := h.1 q
      refine R_iload_n e_X12_wrongPlace_1.2.2.2.1 2 rfl ?_
      obtain ⟨q6, h⟩ := h
      refine R_if_lt 39 e_X12_wrongPlace_1.2.2.2.2.1 (by decide) q6  (fun q => ?_) (fun q => ?_)
      · replace h := h.1 q
        refine R_iconst e_X12_wrongPlace_2.2.1 ?_
        refine R_goto 44 e_X12_wrongPlace_2.2.2.1 (by decide) ?_
        exact R_ireturn e_X12_wrongPlace_2.2.2.2.2 rfl h
      · replace h := h.2 q
        refine R_iload_n e_X12_wrongPlace_1.2.2.2.2.2.1 2 rfl ?_
        refine R_aload_n e_X12_wrongPlace_1.2.2.2.2.2.2.1 0 rfl ?_
        refine R_getA 12 6 4 e_X12_wrongPlace_1.2.2.2.2.2.2.2.1 f_X12_24 km_0 (fun _ _ => rfl) rm_0_6 (by decide) ?_
        refine R_iload_n e_X12_wrongPlace_1.2.2.2.2.2.2.2.2.1 1 rfl ?_
        obtain ⟨q7, h⟩ := h
        refine R_iald 4 e_X12_wrongPlace_1.2.2.2.2.2.2.2.2.2 kma_4 q7 ?_
        refine R_icmp_lt 43 e_X12_wrongPlace_2.1 (by decide) q6 q5 (fun q => ?_) (fun q => ?_)
        · replace h := h.1 q
          refine R_iconst e_X12_wrongPlace_2.2.2.2.1 ?_
          exact R_ireturn e_X12_wrongPlace_2.2.2.2.2 rfl h
        · replace h := h.2 q
          refine R_iconst e_X12_wrongPlace_2.2.1 ?_
          refine R_goto 44 e_X12_wrongPlace_2.2.2.1 (by decide) ?_
          exact R_ireturn e_X12_wrongPlace_2.2.2.2.2 rfl h
    · replace h := h.2 q
      refine R_iconst e_X12_wrongPlace_1.2.1 ?_
      refine R_goto 44 e_X12_wrongPlace_1.2.2.1 (by decide) ?_
      exact R_ireturn e_X12_wrongPlace_2.2.2.2.2 rfl h
  · replace h := h.2 q
    refine R_iconst e_X12_wrongPlace_0.2.2.2.1 ?_
    refine R_goto 44 e_X12_wrongPlace_0.2.2.2.2.1 (by decide) ?_
    exact R_ireturn e_X12_wrongPlace_2.2.2.2.2 rfl h
/-! KiteLandModel.write(IIJ)Z -/
theorem e_X12_write_0 : decode cX12_write 0 = .ok (.aload_n 0, 1) ∧ decode cX12_write 1 = .ok (.iload_n 1, 1) ∧ decode cX12_write 2 = .ok (.iload_n 2, 1) ∧ decode cX12_write 3 = .ok (.invokevirtual 107, 3) ∧ decode cX12_write 6 = .ok (.istore 5, 2) ∧ decode cX12_write 8 = .ok (.iload 5, 2) ∧ decode cX12_write 10 = .ok (.ifCond .ne 24, 3) ∧ decode cX12_write 13 = .ok (.aload_n 0, 1) ∧ decode cX12_write 14 = .ok (.getfield 27, 3) ∧ decode cX12_write 17 = .ok (.bipush 60, 2) := by decide +kernel
theorem e_X12_write_1 : decode cX12_write 19 = .ok (.iload_n 1, 1) ∧ decode cX12_write 20 = .ok (.imul, 1) ∧ decode cX12_write 21 = .ok (.iload_n 2, 1) ∧ decode cX12_write 22 = .ok (.iadd, 1) ∧ decode cX12_write 23 = .ok (.lload_n 3, 1) ∧ decode cX12_write 24 = .ok (.aload_n 0, 1) ∧ decode cX12_write 25 = .ok (.getfield 21, 3) ∧ decode cX12_write 28 = .ok (.iload_n 1, 1) ∧ decode cX12_write 29 = .ok (.iaload, 1) ∧ decode cX12_write 30 = .ok (.invokestatic 111, 3) := by decide +kernel
theorem e_X12_write_2 : decode cX12_write 33 = .ok (.lastore, 1) ∧ decode cX12_write 34 = .ok (.aload_n 0, 1) ∧ decode cX12_write 35 = .ok (.iload 5, 2) ∧ decode cX12_write 37 = .ok (.invokevirtual 100, 3) ∧ decode cX12_write 40 = .ok (.ireturn, 1) := by decide +kernel
theorem S_X12_write {G : Kg} {σ : Kmem} {Q : Int → Kmem → Prop} {l1 l2 l3 : Int}  (h : Run G WM M_X12_wrongPlace 1 0 0 [vA G 0, vI l1, vI l2] σ (fun r1 s2 => (rI r1) ∧ ((r1 ≠ 0 → Run G WM M_X12_is 0 0 0 [vA G 0, vI r1] s2 (fun r4 s5 => (r4 = 0 ∨ r4 = 1) ∧ Q r4 s5)) ∧ (r1 = 0 → (0 ≤ l1 ∧ l1 < 4) ∧ Run G WM M_X12_narrowed 0 0 0 [vL l3, vI (s2 3 l1)] s2 (fun r8 s9 => (0 ≤ (60 * l1) + l2 ∧ (60 * l1) + l2 < 240) ∧ Run G WM M_X12_is 0 0 0 [vA G 0, vI r1] (kup s9 5 ((60 * l1) + l2) r8) (fun r11 s12 => (r11 = 0 ∨ r11 = 1) ∧ Q r11 s12)))))) : Run G WM M_X12_write 2 0 0 [vA G 0, vI l1, vI l2, vL l3] σ Q := by
  refine Run.of (by decide +kernel) (by show (5 : Nat) ≤ 6; decide) ?_
  show Ex G WM M_X12_write 2 0 0 0 [(0, vA G 0), (1, vI l1), (2, vI l2), (3, vL l3)] [] σ Q
  refine R_aload_n e_X12_write_0.1 0 rfl ?_
  refine R_iload_n e_X12_write_0.2.1 1 rfl ?_
  refine R_iload_n e_X12_write_0.2.2.1 2 rfl ?_
  refine R_callV (mc := 0) (ms := 0) (mc' := 0) (ms' := 0) (M' := M_X12_wrongPlace) (d' := 1) (as := [vI l1, vI l2]) (st := []) 12 2 e_X12_write_0.2.2.2.1 (kCVof m_X12_wrongPlace l_X12_107) rfl (by decide) km_0 (by decide) (by decide) rfl rfl (by show (0 : Nat) ≤ 8; decide) ?_
  refine Run.mono h (fun r1 s2 h => ?_)
  refine R_eqs (st2 := [vI r1]) rfl rfl ?_
  refine R_istore (ls2 := [(5, vI r1), (0, vA G 0), (1, vI l1), (2, vI l2), (3, vL l3)]) e_X12_write_0.2.2.2.2.1 (by decide) rfl ?_
  refine R_iload e_X12_write_0.2.2.2.2.2.1 0 rfl ?_
  obtain ⟨q3, h⟩ := h
  refine R_if_ne 34 e_X12_write_0.2.2.2.2.2.2.1 (by decide) q3  (fun q => ?_) (fun q => ?_)
  · replace h := h.1 q
    refine R_aload_n e_X12_write_2.2.1 1 rfl ?_
    refine R_iload e_X12_write_2.2.2.1 0 rfl ?_
    refine R_callV (mc := 0) (ms := 0) (mc' := 0) (ms' := 0) (M' := M_X12_is) (d' := 0) (as := [vI r1]) (st := []) 12 1 e_X12_write_2.2.2.2.1 (kCVof m_X12_is l_X12_100) rfl (by decide) km_0 (by decide) (by decide) rfl rfl (by show (0 : Nat) ≤ 8; decide) ?_
    refine Run.mono h (fun r4 s5 h => ?_)
    refine R_eqs (st2 := [vI r4]) rfl rfl ?_
    obtain ⟨q6, h⟩ := h
    exact R_zreturn e_X12_write_2.2.2.2.2 rfl q6 h
  · replace h := h.2 q
    refine R_aload_n e_X12_write_0.2.2.2.2.2.2.2.1 1 rfl ?_
    refine R_getA 12 7 5 e_X12_write_0.2.2.2.2.2.2.2.2.1 f_X12_27 km_0 (fun _ _ => rfl) rm_0_7 (by decide) ?_
    refine R_bipush e_X12_write_0.2.2.2.2.2.2.2.2.2 (by decide) ?_
    refine R_iload_n e_X12_write_1.1 2 rfl ?_
    refine R_imul e_X12_write_1.2.1 ?_
    refine R_iload_n e_X12_write_1.2.2.1 3 rfl ?_
    refine R_iadd e_X12_write_1.2.2.2.1 ?_
    refine R_lload_n e_X12_write_1.2.2.2.2.1 4 rfl ?_
    refine R_aload_n e_X12_write_1.2.2.2.2.2.1 1 rfl ?_
    refine R_getA 12 5 3 e_X12_write_1.2.2.2.2.2.2.1 f_X12_21 km_0 (fun _ _ => rfl) rm_0_5 (by decide) ?_
    refine R_iload_n e_X12_write_1.2.2.2.2.2.2.2.1 2 rfl ?_
    obtain ⟨q7, h⟩ := h
    refine R_iald 4 e_X12_write_1.2.2.2.2.2.2.2.2.1 kma_3 q7 ?_
    refine R_callS (mc := 0) (ms := 0) (mc' := 0) (ms' := 0) (M' := M_X12_narrowed) (d' := 0) (as := [vL l3, vI (s2 3 l1)]) (st := [vI ((60 * l1) + l2), vA G 5]) 2 e_X12_write_1.2.2.2.2.2.2.2.2.2 (kCSof m_X12_narrowed l_X12_111) (by decide) (by decide) rfl rfl (by show (2 : Nat) ≤ 8; decide) ?_
    refine Run.mono h (fun r8 s9 h => ?_)
    refine R_eqs (st2 := [vL r8, vI ((60 * l1) + l2), vA G 5]) rfl rfl ?_
    obtain ⟨q10, h⟩ := h
    refine R_last 240 WM_ok e_X12_write_2.1 kma_5 q10 ?_
    refine R_aload_n e_X12_write_2.2.1 1 rfl ?_
    refine R_iload e_X12_write_2.2.2.1 0 rfl ?_
    refine R_callV (mc := 0) (ms := 0) (mc' := 0) (ms' := 0) (M' := M_X12_is) (d' := 0) (as := [vI r1]) (st := []) 12 1 e_X12_write_2.2.2.2.1 (kCVof m_X12_is l_X12_100) rfl (by decide) km_0 (by decide) (by decide) rfl rfl (by show (0 : Nat) ≤ 8; decide) ?_
    refine Run.mono h (fun r11 s12 h => ?_)
    refine R_eqs (st2 := [vI r11]) rfl rfl ?_
    obtain ⟨q13, h⟩ := h
    exact R_zreturn e_X12_write_2.2.2.2.2 rfl q13 h
/-! KiteLandModel.read(II)J -/
theorem e_X12_read_0 : decode cX12_read 0 = .ok (.aload_n 0, 1) ∧ decode cX12_read 1 = .ok (.aload_n 0, 1) ∧ decode cX12_read 2 = .ok (.iload_n 1, 1) ∧ decode cX12_read 3 = .ok (.iload_n 2, 1) ∧ decode cX12_read 4 = .ok (.invokevirtual 107, 3) ∧ decode cX12_read 7 = .ok (.putfield 87, 3) ∧ decode cX12_read 10 = .ok (.aload_n 0, 1) ∧ decode cX12_read 11 = .ok (.getfield 87, 3) ∧ decode cX12_read 14 = .ok (.ifCond .le 9, 3) ∧ decode cX12_read 17 = .ok (.ldc2_w 115, 3) := by decide +kernel
theorem e_X12_read_1 : decode cX12_read 20 = .ok (.goto 14, 3) ∧ decode cX12_read 23 = .ok (.aload_n 0, 1) ∧ decode cX12_read 24 = .ok (.getfield 27, 3) ∧ decode cX12_read 27 = .ok (.bipush 60, 2) ∧ decode cX12_read 29 = .ok (.iload_n 1, 1) ∧ decode cX12_read 30 = .ok (.imul, 1) ∧ decode cX12_read 31 = .ok (.iload_n 2, 1) ∧ decode cX12_read 32 = .ok (.iadd, 1) ∧ decode cX12_read 33 = .ok (.laload, 1) ∧ decode cX12_read 34 = .ok (.lreturn, 1) := by decide +kernel
theorem S_X12_read {G : Kg} {σ : Kmem} {Q : Int → Kmem → Prop} {l1 l2 : Int}  (h : Run G WM M_X12_wrongPlace 1 0 0 [vA G 0, vI l1, vI l2] σ (fun r1 s2 => (rI ((kup s2 0 2 r1) 0 2)) ∧ (((kup s2 0 2 r1) 0 2 ≤ 0 → (0 ≤ (60 * l1) + l2 ∧ (60 * l1) + l2 < 240) ∧ Q ((kup s2 0 2 r1) 5 ((60 * l1) + l2)) (kup s2 0 2 r1)) ∧ (0 < (kup s2 0 2 r1) 0 2 → Q (-1) (kup s2 0 2 r1))))) : Run G WM M_X12_read 2 0 0 [vA G 0, vI l1, vI l2] σ Q := by
  refine Run.of (by decide +kernel) (by show (3 : Nat) ≤ 3; decide) ?_
  show Ex G WM M_X12_read 2 0 0 0 [(0, vA G 0), (1, vI l1), (2, vI l2)] [] σ Q
  refine R_aload_n e_X12_read_0.1 0 rfl ?_
  refine R_aload_n e_X12_read_0.2.1 0 rfl ?_
  refine R_iload_n e_X12_read_0.2.2.1 1 rfl ?_
  refine R_iload_n e_X12_read_0.2.2.2.1 2 rfl ?_
  refine R_callV (mc := 0) (ms := 0) (mc' := 0) (ms' := 0) (M' := M_X12_wrongPlace) (d' := 1) (as := [vI l1, vI l2]) (st := [vA G 0]) 12 2 e_X12_read_0.2.2.2.2.1 (kCVof m_X12_wrongPlace l_X12_107) rfl (by decide) km_0 (by decide) (by decide) rfl rfl (by show (1 : Nat) ≤ 8; decide) ?_
  refine Run.mono h (fun r1 s2 h => ?_)
  refine R_eqs (st2 := [vI r1, vA G 0]) rfl rfl ?_
  refine R_putI 12 2 2 WM_ok e_X12_read_0.2.2.2.2.2.1 f_X12_87 km_0 rfl rfl rfl ?_
  refine R_aload_n e_X12_read_0.2.2.2.2.2.2.1 0 rfl ?_
  refine R_getI 12 2 2 e_X12_read_0.2.2.2.2.2.2.2.1 f_X12_87 km_0 (fun _ _ => rfl) rfl ?_
  obtain ⟨q3, h⟩ := h
  refine R_if_le 23 e_X12_read_0.2.2.2.2.2.2.2.2.1 (by decide) q3  (fun q => ?_) (fun q => ?_)
  · replace h := h.1 q
    refine R_aload_n e_X12_read_1.2.1 0 rfl ?_
    refine R_getA 12 7 5 e_X12_read_1.2.2.1 f_X12_27 km_0 (fun _ _ => rfl) rm_0_7 (by decide) ?_
    refine R_bipush e_X12_read_1.2.2.2.1 (by decide) ?_
    refine R_iload_n e_X12_read_1.2.2.2.2.1 1 rfl ?_
    refine R_imul e_X12_read_1.2.2.2.2.2.1 ?_
    refine R_iload_n e_X12_read_1.2.2.2.2.2.2.1 2 rfl ?_
    refine R_iadd e_X12_read_1.2.2.2.2.2.2.2.1 ?_
    obtain ⟨q4, h⟩ := h
    refine R_lald 240 e_X12_read_1.2.2.2.2.2.2.2.2.1 kma_5 q4 ?_
    exact R_lreturn e_X12_read_1.2.2.2.2.2.2.2.2.2 rfl h
  · replace h := h.2 q
    refine R_ldc2 (-1) k_X12_115 e_X12_read_0.2.2.2.2.2.2.2.2.2 ?_
    refine R_goto 34 e_X12_read_1.1 (by decide) ?_
    exact R_lreturn e_X12_read_1.2.2.2.2.2.2.2.2.2 rfl h
/-! KiteLandModel.pour(IIIII)Z -/
theorem e_X12_pour_0 : decode cX12_pour 0 = .ok (.iload_n 1, 1) ∧ decode cX12_pour 1 = .ok (.invokestatic 104, 3) ∧ decode cX12_pour 4 = .ok (.ifCond .eq 24, 3) ∧ decode cX12_pour 7 = .ok (.iload_n 3, 1) ∧ decode cX12_pour 8 = .ok (.invokestatic 104, 3) ∧ decode cX12_pour 11 = .ok (.ifCond .eq 17, 3) ∧ decode cX12_pour 14 = .ok (.iload_n 2, 1) ∧ decode cX12_pour 15 = .ok (.ifCond .lt 13, 3) ∧ decode cX12_pour 18 = .ok (.iload 4, 2) ∧ decode cX12_pour 20 = .ok (.ifCond .lt 8, 3) := by decide +kernel
theorem e_X12_pour_1 : decode cX12_pour 23 = .ok (.iload 5, 2) ∧ decode cX12_pour 25 = .ok (.ifCond .ge 9, 3) ∧ decode cX12_pour 28 = .ok (.aload_n 0, 1) ∧ decode cX12_pour 29 = .ok (.iconst 1, 1) ∧ decode cX12_pour 30 = .ok (.invokevirtual 100, 3) ∧ decode cX12_pour 33 = .ok (.ireturn, 1) ∧ decode cX12_pour 34 = .ok (.aload_n 0, 1) ∧ decode cX12_pour 35 = .ok (.getfield 24, 3) ∧ decode cX12_pour 38 = .ok (.iload_n 1, 1) ∧ decode cX12_pour 39 = .ok (.iaload, 1) := by decide +kernel
theorem e_X12_pour_2 : decode cX12_pour 40 = .ok (.iconst (-1), 1) ∧ decode cX12_pour 41 = .ok (.if_icmp .eq 13, 3) ∧ decode cX12_pour 44 = .ok (.aload_n 0, 1) ∧ decode cX12_pour 45 = .ok (.getfield 24, 3) ∧ decode cX12_pour 48 = .ok (.iload_n 3, 1) ∧ decode cX12_pour 49 = .ok (.iaload, 1) ∧ decode cX12_pour 50 = .ok (.iconst (-1), 1) ∧ decode cX12_pour 51 = .ok (.if_icmp .ne 9, 3) ∧ decode cX12_pour 54 = .ok (.aload_n 0, 1) ∧ decode cX12_pour 55 = .ok (.iconst 2, 1) := by decide +kernel
theorem e_X12_pour_3 : decode cX12_pour 56 = .ok (.invokevirtual 100, 3) ∧ decode cX12_pour 59 = .ok (.ireturn, 1) ∧ decode cX12_pour 60 = .ok (.aload_n 0, 1) ∧ decode cX12_pour 61 = .ok (.getfield 21, 3) ∧ decode cX12_pour 64 = .ok (.iload_n 1, 1) ∧ decode cX12_pour 65 = .ok (.iaload, 1) ∧ decode cX12_pour 66 = .ok (.aload_n 0, 1) ∧ decode cX12_pour 67 = .ok (.getfield 21, 3) ∧ decode cX12_pour 70 = .ok (.iload_n 3, 1) ∧ decode cX12_pour 71 = .ok (.iaload, 1) := by decide +kernel
theorem e_X12_pour_4 : decode cX12_pour 72 = .ok (.if_icmp .eq 10, 3) ∧ decode cX12_pour 75 = .ok (.aload_n 0, 1) ∧ decode cX12_pour 76 = .ok (.bipush 8, 2) ∧ decode cX12_pour 78 = .ok (.invokevirtual 100, 3) ∧ decode cX12_pour 81 = .ok (.ireturn, 1) ∧ decode cX12_pour 82 = .ok (.iload 5, 2) ∧ decode cX12_pour 84 = .ok (.aload_n 0, 1) ∧ decode cX12_pour 85 = .ok (.getfield 24, 3) ∧ decode cX12_pour 88 = .ok (.iload_n 1, 1) ∧ decode cX12_pour 89 = .ok (.iaload, 1) := by decide +kernel
theorem e_X12_pour_5 : decode cX12_pour 90 = .ok (.iload_n 2, 1) ∧ decode cX12_pour 91 = .ok (.isub, 1) ∧ decode cX12_pour 92 = .ok (.if_icmp .gt 17, 3) ∧ decode cX12_pour 95 = .ok (.iload 5, 2) ∧ decode cX12_pour 97 = .ok (.aload_n 0, 1) ∧ decode cX12_pour 98 = .ok (.getfield 24, 3) ∧ decode cX12_pour 101 = .ok (.iload_n 3, 1) ∧ decode cX12_pour 102 = .ok (.iaload, 1) ∧ decode cX12_pour 103 = .ok (.iload 4, 2) ∧ decode cX12_pour 105 = .ok (.isub, 1) := by decide +kernel
theorem e_X12_pour_6 : decode cX12_pour 106 = .ok (.if_icmp .le 9, 3) ∧ decode cX12_pour 109 = .ok (.aload_n 0, 1) ∧ decode cX12_pour 110 = .ok (.iconst 3, 1) ∧ decode cX12_pour 111 = .ok (.invokevirtual 100, 3) ∧ decode cX12_pour 114 = .ok (.ireturn, 1) ∧ decode cX12_pour 115 = .ok (.iconst 0, 1) ∧ decode cX12_pour 116 = .ok (.istore 6, 2) ∧ decode cX12_pour 118 = .ok (.iload 6, 2) ∧ decode cX12_pour 120 = .ok (.iload 5, 2) ∧ decode cX12_pour 122 = .ok (.if_icmp .ge 58, 3) := by decide +kernel
theorem e_X12_pour_7 : decode cX12_pour 125 = .ok (.iload_n 2, 1) ∧ decode cX12_pour 126 = .ok (.iload 4, 2) ∧ decode cX12_pour 128 = .ok (.if_icmp .ge 13, 3) ∧ decode cX12_pour 131 = .ok (.iload 5, 2) ∧ decode cX12_pour 133 = .ok (.iconst 1, 1) ∧ decode cX12_pour 134 = .ok (.isub, 1) ∧ decode cX12_pour 135 = .ok (.iload 6, 2) ∧ decode cX12_pour 137 = .ok (.isub, 1) ∧ decode cX12_pour 138 = .ok (.goto 5, 3) ∧ decode cX12_pour 141 = .ok (.iload 6, 2) := by decide +kernel
theorem e_X12_pour_8 : decode cX12_pour 143 = .ok (.istore 7, 2) ∧ decode cX12_pour 145 = .ok (.aload_n 0, 1) ∧ decode cX12_pour 146 = .ok (.getfield 27, 3) ∧ decode cX12_pour 149 = .ok (.bipush 60, 2) ∧ decode cX12_pour 151 = .ok (.iload_n 3, 1) ∧ decode cX12_pour 152 = .ok (.imul, 1) ∧ decode cX12_pour 153 = .ok (.iload 4, 2) ∧ decode cX12_pour 155 = .ok (.iadd, 1) ∧ decode cX12_pour 156 = .ok (.iload 7, 2) ∧ decode cX12_pour 158 = .ok (.iadd, 1) := by decide +kernel
theorem e_X12_pour_9 : decode cX12_pour 159 = .ok (.aload_n 0, 1) ∧ decode cX12_pour 160 = .ok (.getfield 27, 3) ∧ decode cX12_pour 163 = .ok (.bipush 60, 2) ∧ decode cX12_pour 165 = .ok (.iload_n 1, 1) ∧ decode cX12_pour 166 = .ok (.imul, 1) ∧ decode cX12_pour 167 = .ok (.iload_n 2, 1) ∧ decode cX12_pour 168 = .ok (.iadd, 1) ∧ decode cX12_pour 169 = .ok (.iload 7, 2) ∧ decode cX12_pour 171 = .ok (.iadd, 1) ∧ decode cX12_pour 172 = .ok (.laload, 1) := by decide +kernel
theorem e_X12_pour_10 : decode cX12_pour 173 = .ok (.lastore, 1) ∧ decode cX12_pour 174 = .ok (.iinc 6 1, 3) ∧ decode cX12_pour 177 = .ok (.goto (-59), 3) ∧ decode cX12_pour 180 = .ok (.aload_n 0, 1) ∧ decode cX12_pour 181 = .ok (.iconst 0, 1) ∧ decode cX12_pour 182 = .ok (.invokevirtual 100, 3) ∧ decode cX12_pour 185 = .ok (.ireturn, 1) := by decide +kernel
abbrev E_X12_pour_118 (G : Kg) (l1 l2 l3 l4 l5 l6 : Int) (σ : Kmem) (Q : Int → Kmem → Prop) : Prop := Ex G WM M_X12_pour 1 0 0 118 [(0, vA G 0), (1, vI l1), (2, vI l2), (3, vI l3), (4, vI l4), (5, vI l5), (6, vI l6)] [] σ Q
theorem S_X12_pour {G : Kg} {σ : Kmem} {Q : Int → Kmem → Prop} {l1 l2 l3 l4 l5 : Int}  (h : Run G WM M_X12_isTray 0 0 0 [vI l1] σ (fun r1 s2 => (rI r1) ∧ ((r1 = 0 → Run G WM M_X12_is 0 0 0 [vA G 0, vI 1] s2 (fun r4 s5 => (r4 = 0 ∨ r4 = 1) ∧ Q r4 s5)) ∧ (r1 ≠ 0 → Run G WM M_X12_isTray 0 0 0 [vI l3] s2 (fun r7 s8 => (rI r7) ∧ ((r7 = 0 → Run G WM M_X12_is 0 0 0 [vA G 0, vI 1] s8 (fun r10 s11 => (r10 = 0 ∨ r10 = 1) ∧ Q r10 s11)) ∧ (r7 ≠ 0 → (rI l2) ∧ ((l2 < 0 → Run G WM M_X12_is 0 0 0 [vA G 0, vI 1] s8 (fun r14 s15 => (r14 = 0 ∨ r14 = 1) ∧ Q r14 s15)) ∧ (0 ≤ l2 → (rI l4) ∧ ((l4 < 0 → Run G WM M_X12_is 0 0 0 [vA G 0, vI 1] s8 (fun r18 s19 => (r18 = 0 ∨ r18 = 1) ∧ Q r18 s19)) ∧ (0 ≤ l4 → (rI l5) ∧ ((0 ≤ l5 → (0 ≤ l1 ∧ l1 < 4) ∧ (rI (s8 4 l1)) ∧ ((s8 4 l1 = -1 → Run G WM M_X12_is 0 0 0 [vA G 0, vI 2] s8 (fun r24 s25 => (r24 = 0 ∨ r24 = 1) ∧ Q r24 s25)) ∧ (s8 4 l1 ≠ -1 → (0 ≤ l3 ∧ l3 < 4) ∧ (rI (s8 4 l3)) ∧ ((s8 4 l3 ≠ -1 → (0 ≤ l1 ∧ l1 < 4) ∧ (0 ≤ l3 ∧ l3 < 4) ∧ (rI (s8 3 l1)) ∧ (rI (s8 3 l3)) ∧ ((s8 3 l1 = s8 3 l3 → (0 ≤ l1 ∧ l1 < 4) ∧ (rI ((s8 4 l1) - l2)) ∧ (((s8 4 l1) - l2 < l5 → Run G WM M_X12_is 0 0 0 [vA G 0, vI 3] s8 (fun r35 s36 => (r35 = 0 ∨ r35 = 1) ∧ Q r35 s36)) ∧ (l5 ≤ (s8 4 l1) - l2 → (0 ≤ l3 ∧ l3 < 4) ∧ (rI ((s8 4 l3) - l4)) ∧ ((l5 ≤ (s8 4 l3) - l4 → E_X12_pour_118 G l1 l2 l3 l4 l5 0 s8 Q) ∧ ((s8 4 l3) - l4 < l5 → Run G WM M_X12_is 0 0 0 [vA G 0, vI 3] s8 (fun r40 s41 => (r40 = 0 ∨ r40 = 1) ∧ Q r40 s41)))))) ∧ (s8 3 l1 ≠ s8 3 l3 → Run G WM M_X12_is 0 0 0 [vA G 0, vI 8] s8 (fun r43 s44 => (r43 = 0 ∨ r43 = 1) ∧ Q r43 s44)))) ∧ (s8 4 l3 = -1 → Run G WM M_X12_is 0 0 0 [vA G 0, vI 2] s8 (fun r46 s47 => (r46 = 0 ∨ r46 = 1) ∧ Q r46 s47)))))) ∧ (l5 < 0 → Run G WM M_X12_is 0 0 0 [vA G 0, vI 1] s8 (fun r49 s50 => (r49 = 0 ∨ r49 = 1) ∧ Q r49 s50)))))))))))))) : Run G WM M_X12_pour 1 0 0 [vA G 0, vI l1, vI l2, vI l3, vI l4, vI l5] σ Q := by
  refine Run.of (by decide +kernel) (by show (6 : Nat) ≤ 8; decide) ?_
  show Ex G WM M_X12_pour 1 0 0 0 [(0, vA G 0), (1, vI l1), (2, vI l2), (3, vI l3), (4, vI l4), (5, vI l5)] [] σ Q
  refine R_iload_n e_X12_pour_0.1 1 rfl ?_
  refine R_callS (mc := 0) (ms := 0) (mc' := 0) (ms' := 0) (M' := M_X12_isTray) (d' := 0) (as := [vI l1]) (st := []) 1 e_X12_pour_0.2.1 (kCSof m_X12_isTray l_X12_104) (by decide) (by decide) rfl rfl (by show (0 : Nat) ≤ 8; decide) ?_
  refine Run.mono h (fun r1 s2 h => ?_)
  refine R_eqs (st2 := [vI r1]) rfl rfl ?_
  obtain ⟨q3, h⟩ := h
  refine R_if_eq 28 e_X12_pour_0.2.2.1 (by decide) q3  (fun q => ?_) (fun q => ?_)
  · replace h := h.1 q
    refine R_aload_n e_X12_pour_1.2.2.1 0 rfl ?_
    refine R_iconst e_X12_pour_1.2.2.2.1 ?_
    refine R_callV (mc := 0) (ms := 0) (mc' := 0) (ms' := 0) (M' := M_X12_is) (d' := 0) (as := [vI 1]) (st := []) 12 1 e_X12_pour_1.2.2.2.2.1 (kCVof m_X12_is l_X12_100) rfl (by decide) km_0 (by decide) (by decide) rfl rfl (by show (0 : Nat) ≤ 8; decide) ?_
    refine Run.mono h (fun r4 s5 h => ?_)
    refine R_eqs (st2 := [vI r4]) rfl rfl ?_
    obtain ⟨q6, h⟩ := h
    exact R_zreturn e_X12_pour_1.2.2.2.2.2.1 rfl q6 h
  · replace h := h.2 q
    refine R_iload_n e_X12_pour_0.2.2.2.1 3 rfl ?_
    refine R_callS (mc := 0) (ms := 0) (mc' := 0) (ms' := 0) (M' := M_X12_isTray) (d' := 0) (as := [vI l3]) (st := []) 1 e_X12_pour_0.2.2.2.2.1 (kCSof m_X12_isTray l_X12_104) (by decide) (by decide) rfl rfl (by show (0 : Nat) ≤ 8; decide) ?_
    refine Run.mono h (fun r7 s8 h => ?_)
    refine R_eqs (st2 := [vI r7]) rfl rfl ?_
    obtain ⟨q9, h⟩ := h
    refine R_if_eq 28 e_X12_pour_0.2.2.2.2.2.1 (by decide) q9  (fun q => ?_) (fun q => ?_)
    · replace h := h.1 q
      refine R_aload_n e_X12_pour_1.2.2.1 0 rfl ?_
      refine R_iconst e_X12_pour_1.2.2.2.1 ?_
      refine R_callV (mc := 0) (ms := 0) (mc' := 0) (ms' := 0) (M' := M_X12_is) (d' := 0) (as := [vI 1]) (st := []) 12 1 e_X12_pour_1.2.2.2.2.1 (kCVof m_X12_is l_X12_100) rfl (by decide) km_0 (by decide) (by decide) rfl rfl (by show (0 : Nat) ≤ 8; decide) ?_
      refine Run.mono h (fun r10 s11 h => ?_)
      refine R_eqs (st2 := [vI r10]) rfl rfl ?_
      obtain ⟨q12, h⟩ := h
      exact R_zreturn e_X12_pour_1.2.2.2.2.2.1 rfl q12 h
    · replace h := h.2 q
      refine R_iload_n e_X12_pour_0.2.2.2.2.2.2.1 2 rfl ?_
      obtain ⟨q13, h⟩ := h
      refine R_if_lt 28 e_X12_pour_0.2.2.2.2.2.2.2.1 (by decide) q13  (fun q => ?_) (fun q => ?_)
      · replace h := h.1 q
        refine R_aload_n e_X12_pour_1.2.2.1 0 rfl ?_
        refine R_iconst e_X12_pour_1.2.2.2.1 ?_
        refine R_callV (mc := 0) (ms := 0) (mc' := 0) (ms' := 0) (M' := M_X12_is) (d' := 0) (as := [vI 1]) (st := []) 12 1 e_X12_pour_1.2.2.2.2.1 (kCVof m_X12_is l_X12_100) rfl (by decide) km_0 (by decide) (by decide) rfl rfl (by show (0 : Nat) ≤ 8; decide) ?_
        refine Run.mono h (fun r14 s15 h => ?_)
        refine R_eqs (st2 := [vI r14]) rfl rfl ?_
        obtain ⟨q16, h⟩ := h
        exact R_zreturn e_X12_pour_1.2.2.2.2.2.1 rfl q16 h
      · replace h := h.2 q
        refine R_iload e_X12_pour_0.2.2.2.2.2.2.2.2.1 4 rfl ?_
        obtain ⟨q17, h⟩ := h
        refine R_if_lt 28 e_X12_pour_0.2.2.2.2.2.2.2.2.2 (by decide) q17  (fun q => ?_) (fun q => ?_)
        · replace h := h.1 q
          refine R_aload_n e_X12_pour_1.2.2.1 0 rfl ?_
          refine R_iconst e_X12_pour_1.2.2.2.1 ?_
          refine R_callV (mc := 0) (ms := 0) (mc' := 0) (ms' := 0) (M' := M_X12_is) (d' := 0) (as := [vI 1]) (st := []) 12 1 e_X12_pour_1.2.2.2.2.1 (kCVof m_X12_is l_X12_100) rfl (by decide) km_0 (by decide) (by decide) rfl rfl (by show (0 : Nat) ≤ 8; decide) ?_
          refine Run.mono h (fun r18 s19 h => ?_)
          refine R_eqs (st2 := [vI r18]) rfl rfl ?_
          obtain ⟨q20, h⟩ := h
          exact R_zreturn e_X12_pour_1.2.2.2.2.2.1 rfl q20 h
        · replace h := h.2 q
          refine R_iload e_X12_pour_1.1 5 rfl ?_
          obtain ⟨q21, h⟩ := h
          refine R_if_ge 34 e_X12_pour_1.2.1 (by decide) q21  (fun q => ?_) (fun q => ?_)
          · replace h := h.1 q
            refine R_aload_n e_X12_pour_1.2.2.2.2.2.2.1 0 rfl ?_
            refine R_getA 12 6 4 e_X12_pour_1.2.2.2.2.2.2.2.1 f_X12_24 km_0 (fun _ _ => rfl) rm_0_6 (by decide) ?_
            refine R_iload_n e_X12_pour_1.2.2.2.2.2.2.2.2.1 1 rfl ?_
            obtain ⟨q22, h⟩ := h
            refine R_iald 4 e_X12_pour_1.2.2.2.2.2.2.2.2.2 kma_4 q22 ?_
            refine R_iconst e_X12_pour_2.1 ?_
            obtain ⟨q23, h⟩ := h
            refine R_icmp_eq 54 e_X12_pour_2.2.1 (by decide) q23 (by decide) (fun q => ?_) (fun q => ?_)
            · replace h := h.1 q
              refine R_aload_n e_X12_pour_2.2.2.2.2.2.2.2.2.1 0 rfl ?_
              refine R_iconst e_X12_pour_2.2.2.2.2.2.2.2.2.2 ?_
              refine R_callV (mc := 0) (ms := 0) (mc' := 0) (ms' := 0) (M' := M_X12_is) (d' := 0) (as := [vI 2]) (st := []) 12 1 e_X12_pour_3.1 (kCVof m_X12_is l_X12_100) rfl (by decide) km_0 (by decide) (by decide) rfl rfl (by show (0 : Nat) ≤ 8; decide) ?_
              refine Run.mono h (fun r24 s25 h => ?_)
              refine R_eqs (st2 := [vI r24]) rfl rfl ?_
              obtain ⟨q26, h⟩ := h
              exact R_zreturn e_X12_pour_3.2.1 rfl q26 h
            · replace h := h.2 q
              refine R_aload_n e_X12_pour_2.2.2.1 0 rfl ?_
              refine R_getA 12 6 4 e_X12_pour_2.2.2.2.1 f_X12_24 km_0 (fun _ _ => rfl) rm_0_6 (by decide) ?_
              refine R_iload_n e_X12_pour_2.2.2.2.2.1 3 rfl ?_
              obtain ⟨q27, h⟩ := h
              refine R_iald 4 e_X12_pour_2.2.2.2.2.2.1 kma_4 q27 ?_
              refine R_iconst e_X12_pour_2.2.2.2.2.2.2.1 ?_
              obtain ⟨q28, h⟩ := h
              refine R_icmp_ne 60 e_X12_pour_2.2.2.2.2.2.2.2.1 (by decide) q28 (by decide) (fun q => ?_) (fun q => ?_)
              · replace h := h.1 q
                refine R_aload_n e_X12_pour_3.2.2.1 0 rfl ?_
                refine R_getA 12 5 3 e_X12_pour_3.2.2.2.1 f_X12_21 km_0 (fun _ _ => rfl) rm_0_5 (by decide) ?_
                refine R_iload_n e_X12_pour_3.2.2.2.2.1 1 rfl ?_
                obtain ⟨q29, h⟩ := h
                refine R_iald 4 e_X12_pour_3.2.2.2.2.2.1 kma_3 q29 ?_
                refine R_aload_n e_X12_pour_3.2.2.2.2.2.2.1 0 rfl ?_
                refine R_getA 12 5 3 e_X12_pour_3.2.2.2.2.2.2.2.1 f_X12_21 km_0 (fun _ _ => rfl) rm_0_5 (by decide) ?_
                refine R_iload_n e_X12_pour_3.2.2.2.2.2.2.2.2.1 3 rfl ?_
                obtain ⟨q30, h⟩ := h
                refine R_iald 4 e_X12_pour_3.2.2.2.2.2.2.2.2.2 kma_3 q30 ?_
                obtain ⟨q31, h⟩ := h
                obtain ⟨q32, h⟩ := h
                refine R_icmp_eq 82 e_X12_pour_4.1 (by decide) q31 q32 (fun q => ?_) (fun q => ?_)
                · replace h := h.1 q
                  refine R_iload e_X12_pour_4.2.2.2.2.2.1 5 rfl ?_
                  refine R_aload_n e_X12_pour_4.2.2.2.2.2.2.1 0 rfl ?_
                  refine R_getA 12 6 4 e_X12_pour_4.2.2.2.2.2.2.2.1 f_X12_24 km_0 (fun _ _ => rfl) rm_0_6 (by decide) ?_
                  refine R_iload_n e_X12_pour_4.2.2.2.2.2.2.2.2.1 1 rfl ?_
                  obtain ⟨q33, h⟩ := h
                  refine R_iald 4 e_X12_pour_4.2.2.2.2.2.2.2.2.2 kma_4 q33 ?_
                  refine R_iload_n e_X12_pour_5.1 2 rfl ?_
                  refine R_isub e_X12_pour_5.2.1 ?_
                  obtain ⟨q34, h⟩ := h
                  refine R_icmp_gt 109 e_X12_pour_5.2.2.1 (by decide) q21 q34 (fun q => ?_) (fun q => ?_)
                  · replace h := h.1 q
                    refine R_aload_n e_X12_pour_6.2.1 0 rfl ?_
                    refine R_iconst e_X12_pour_6.2.2.1 ?_
                    refine R_callV (mc := 0) (ms := 0) (mc' := 0) (ms' := 0) (M' := M_X12_is) (d' := 0) (as := [vI 3]) (st := []) 12 1 e_X12_pour_6.2.2.2.1 (kCVof m_X12_is l_X12_100) rfl (by decide) km_0 (by decide) (by decide) rfl rfl (by show (0 : Nat) ≤ 8; decide) ?_
                    refine Run.mono h (fun r35 s36 h => ?_)
                    refine R_eqs (st2 := [vI r35]) rfl rfl ?_
                    obtain ⟨q37, h⟩ := h
                    exact R_zreturn e_X12_pour_6.2.2.2.2.1 rfl q37 h
                  · replace h := h.2 q
                    refine R_iload e_X12_pour_5.2.2.2.1 5 rfl ?_
                    refine R_aload_n e_X12_pour_5.2.2.2.2.1 0 rfl ?_
                    refine R_getA 12 6 4 e_X12_pour_5.2.2.2.2.2.1 f_X12_24 km_0 (fun _ _ => rfl) rm_0_6 (by decide) ?_
                    refine R_iload_n e_X12_pour_5.2.2.2.2.2.2.1 3 rfl ?_
                    obtain ⟨q38, h⟩ := h
                    refine R_iald 4 e_X12_pour_5.2.2.2.2.2.2.2.1 kma_4 q38 ?_
                    refine R_iload e_X12_pour_5.2.2.2.2.2.2.2.2.1 4 rfl ?_
                    refine R_isub e_X12_pour_5.2.2.2.2.2.2.2.2.2 ?_
                    obtain ⟨q39, h⟩ := h
                    refine R_icmp_le 115 e_X12_pour_6.1 (by decide) q21 q39 (fun q => ?_) (fun q => ?_)
                    · replace h := h.1 q
                      refine R_iconst e_X12_pour_6.2.2.2.2.2.1 ?_
                      refine R_istore (ls2 := [(6, vI 0), (0, vA G 0), (1, vI l1), (2, vI l2), (3, vI l3), (4, vI l4), (5, vI l5)]) e_X12_pour_6.2.2.2.2.2.2.1 (by decide) rfl ?_
                      refine R_ls (ls2 := [(0, vA G 0), (1, vI l1), (2, vI l2), (3, vI l3), (4, vI l4), (5, vI l5), (6, vI 0)]) [1, 2, 3, 4, 5, 6, 0] rfl ?_
                      exact h
                    · replace h := h.2 q
                      refine R_aload_n e_X12_pour_6.2.1 0 rfl ?_
                      refine R_iconst e_X12_pour_6.2.2.1 ?_
                      refine R_callV (mc := 0) (ms := 0) (mc' := 0) (ms' := 0) (M' := M_X12_is) (d' := 0) (as := [vI 3]) (st := []) 12 1 e_X12_pour_6.2.2.2.1 (kCVof m_X12_is l_X12_100) rfl (by decide) km_0 (by decide) (by decide) rfl rfl (by show (0 : Nat) ≤ 8; decide) ?_
                      refine Run.mono h (fun r40 s41 h => ?_)
                      refine R_eqs (st2 := [vI r40]) rfl rfl ?_
                      obtain ⟨q42, h⟩ := h
                      exact R_zreturn e_X12_pour_6.2.2.2.2.1 rfl q42 h
                · replace h := h.2 q
                  refine R_aload_n e_X12_pour_4.2.1 0 rfl ?_
                  refine R_bipush e_X12_pour_4.2.2.1 (by decide) ?_
                  refine R_callV (mc := 0) (ms := 0) (mc' := 0) (ms' := 0) (M' := M_X12_is) (d' := 0) (as := [vI 8]) (st := []) 12 1 e_X12_pour_4.2.2.2.1 (kCVof m_X12_is l_X12_100) rfl (by decide) km_0 (by decide) (by decide) rfl rfl (by show (0 : Nat) ≤ 8; decide) ?_
                  refine Run.mono h (fun r43 s44 h => ?_)
                  refine R_eqs (st2 := [vI r43]) rfl rfl ?_
                  obtain ⟨q45, h⟩ := h
                  exact R_zreturn e_X12_pour_4.2.2.2.2.1 rfl q45 h
              · replace h := h.2 q
                refine R_aload_n e_X12_pour_2.2.2.2.2.2.2.2.2.1 0 rfl ?_
                refine R_iconst e_X12_pour_2.2.2.2.2.2.2.2.2.2 ?_
                refine R_callV (mc := 0) (ms := 0) (mc' := 0) (ms' := 0) (M' := M_X12_is) (d' := 0) (as := [vI 2]) (st := []) 12 1 e_X12_pour_3.1 (kCVof m_X12_is l_X12_100) rfl (by decide) km_0 (by decide) (by decide) rfl rfl (by show (0 : Nat) ≤ 8; decide) ?_
                refine Run.mono h (fun r46 s47 h => ?_)
                refine R_eqs (st2 := [vI r46]) rfl rfl ?_
                obtain ⟨q48, h⟩ := h
                exact R_zreturn e_X12_pour_3.2.1 rfl q48 h
          · replace h := h.2 q
            refine R_aload_n e_X12_pour_1.2.2.1 0 rfl ?_
            refine R_iconst e_X12_pour_1.2.2.2.1 ?_
            refine R_callV (mc := 0) (ms := 0) (mc' := 0) (ms' := 0) (M' := M_X12_is) (d' := 0) (as := [vI 1]) (st := []) 12 1 e_X12_pour_1.2.2.2.2.1 (kCVof m_X12_is l_X12_100) rfl (by decide) km_0 (by decide) (by decide) rfl rfl (by show (0 : Nat) ≤ 8; decide) ?_
            refine Run.mono h (fun r49 s50 h => ?_)
            refine R_eqs (st2 := [vI r49]) rfl rfl ?_
            obtain ⟨q51, h⟩ := h
            exact R_zreturn e_X12_pour_1.2.2.2.2.2.1 rfl q51 h
theorem S_X12_pour_118 {G : Kg} {σ : Kmem} {Q : Int → Kmem → Prop} {l1 l2 l3 l4 l5 l6 : Int}  (h : (rI l6) ∧ (rI l5) ∧ ((l5 ≤ l6 → Run G WM M_X12_is 0 0 0 [vA G 0, vI 0] σ (fun r54 s55 => (r54 = 0 ∨ r54 = 1) ∧ Q r54 s55)) ∧ (l6 < l5 → (rI l2) ∧ (rI l4) ∧ ((l4 ≤ l2 → (0 ≤ ((60 * l1) + l2) + l6 ∧ ((60 * l1) + l2) + l6 < 240) ∧ (0 ≤ ((60 * l3) + l4) + l6 ∧ ((60 * l3) + l4) + l6 < 240) ∧ E_X12_pour_118 G l1 l2 l3 l4 l5 (l6 + 1) (kup σ 5 (((60 * l3) + l4) + l6) (σ 5 (((60 * l1) + l2) + l6))) Q) ∧ (l2 < l4 → (0 ≤ ((60 * l1) + l2) + ((l5 - 1) - l6) ∧ ((60 * l1) + l2) + ((l5 - 1) - l6) < 240) ∧ (0 ≤ ((60 * l3) + l4) + ((l5 - 1) - l6) ∧ ((60 * l3) + l4) + ((l5 - 1) - l6) < 240) ∧ E_X12_pour_118 G l1 l2 l3 l4 l5 (l6 + 1) (kup σ 5 (((60 * l3) + l4) + ((l5 - 1) - l6)) (σ 5 (((60 * l1) + l2) + ((l5 - 1) - l6)))) Q))))) : E_X12_pour_118 G l1 l2 l3 l4 l5 l6 σ Q := by
  refine R_iload e_X12_pour_6.2.2.2.2.2.2.2.1 6 rfl ?_
  refine R_iload e_X12_pour_6.2.2.2.2.2.2.2.2.1 5 rfl ?_
  obtain ⟨q52, h⟩ := h
  obtain ⟨q53, h⟩ := h
  refine R_icmp_ge 180 e_X12_pour_6.2.2.2.2.2.2.2.2.2 (by decide) q52 q53 (fun q => ?_) (fun q => ?_)
  · replace h := h.1 q
    refine R_aload_n e_X12_pour_10.2.2.2.1 0 rfl ?_
    refine R_iconst e_X12_pour_10.2.2.2.2.1 ?_
    refine R_callV (mc := 0) (ms := 0) (mc' := 0) (ms' := 0) (M' := M_X12_is) (d' := 0) (as := [vI 0]) (st := []) 12 1 e_X12_pour_10.2.2.2.2.2.1 (kCVof m_X12_is l_X12_100) rfl (by decide) km_0 (by decide) (by decide) rfl rfl (by show (0 : Nat) ≤ 8; decide) ?_
    refine Run.mono h (fun r54 s55 h => ?_)
    refine R_eqs (st2 := [vI r54]) rfl rfl ?_
    obtain ⟨q56, h⟩ := h
    exact R_zreturn e_X12_pour_10.2.2.2.2.2.2 rfl q56 h
  · replace h := h.2 q
    refine R_iload_n e_X12_pour_7.1 2 rfl ?_
    refine R_iload e_X12_pour_7.2.1 4 rfl ?_
    obtain ⟨q57, h⟩ := h
    obtain ⟨q58, h⟩ := h
    refine R_icmp_ge 141 e_X12_pour_7.2.2.1 (by decide) q57 q58 (fun q => ?_) (fun q => ?_)
    · replace h := h.1 q
      refine R_iload e_X12_pour_7.2.2.2.2.2.2.2.2.2 6 rfl ?_
      refine R_istore (ls2 := [(7, vI l6), (0, vA G 0), (1, vI l1), (2, vI l2), (3, vI l3), (4, vI l4), (5, vI l5), (6, vI l6)]) e_X12_pour_8.1 (by decide) rfl ?_
      refine R_aload_n e_X12_pour_8.2.1 1 rfl ?_
      refine R_getA 12 7 5 e_X12_pour_8.2.2.1 f_X12_27 km_0 (fun _ _ => rfl) rm_0_7 (by decide) ?_
      refine R_bipush e_X12_pour_8.2.2.2.1 (by decide) ?_
      refine R_iload_n e_X12_pour_8.2.2.2.2.1 4 rfl ?_
      refine R_imul e_X12_pour_8.2.2.2.2.2.1 ?_
      refine R_iload e_X12_pour_8.2.2.2.2.2.2.1 5 rfl ?_
      refine R_iadd e_X12_pour_8.2.2.2.2.2.2.2.1 ?_
      refine R_iload e_X12_pour_8.2.2.2.2.2.2.2.2.1 0 rfl ?_
      refine R_iadd e_X12_pour_8.2.2.2.2.2.2.2.2.2 ?_
      refine R_aload_n e_X12_pour_9.1 1 rfl ?_
      refine R_getA 12 7 5 e_X12_pour_9.2.1 f_X12_27 km_0 (fun _ _ => rfl) rm_0_7 (by decide) ?_
      refine R_bipush e_X12_pour_9.2.2.1 (by decide) ?_
      refine R_iload_n e_X12_pour_9.2.2.2.1 2 rfl ?_
      refine R_imul e_X12_pour_9.2.2.2.2.1 ?_
      refine R_iload_n e_X12_pour_9.2.2.2.2.2.1 3 rfl ?_
      refine R_iadd e_X12_pour_9.2.2.2.2.2.2.1 ?_
      refine R_iload e_X12_pour_9.2.2.2.2.2.2.2.1 0 rfl ?_
      refine R_iadd e_X12_pour_9.2.2.2.2.2.2.2.2.1 ?_
      obtain ⟨q59, h⟩ := h
      refine R_lald 240 e_X12_pour_9.2.2.2.2.2.2.2.2.2 kma_5 q59 ?_
      obtain ⟨q60, h⟩ := h
      refine R_last 240 WM_ok e_X12_pour_10.1 kma_5 q60 ?_
      refine R_iinc (ls2 := [(6, vI (l6 + 1)), (7, vI l6), (0, vA G 0), (1, vI l1), (2, vI l2), (3, vI l3), (4, vI l4), (5, vI l5)]) e_X12_pour_10.2.1 7 rfl (by decide) rfl ?_
      refine R_goto 118 e_X12_pour_10.2.2.1 (by decide) ?_
      refine R_ls (ls2 := [(0, vA G 0), (1, vI l1), (2, vI l2), (3, vI l3), (4, vI l4), (5, vI l5), (6, vI (l6 + 1))]) [2, 3, 4, 5, 6, 7, 0] rfl ?_
      exact h
    · replace h := h.2 q
      refine R_iload e_X12_pour_7.2.2.2.1 5 rfl ?_
      refine R_iconst e_X12_pour_7.2.2.2.2.1 ?_
      refine R_isub e_X12_pour_7.2.2.2.2.2.1 ?_
      refine R_iload e_X12_pour_7.2.2.2.2.2.2.1 6 rfl ?_
      refine R_isub e_X12_pour_7.2.2.2.2.2.2.2.1 ?_
      refine R_goto 143 e_X12_pour_7.2.2.2.2.2.2.2.2.1 (by decide) ?_
      refine R_istore (ls2 := [(7, vI ((l5 - 1) - l6)), (0, vA G 0), (1, vI l1), (2, vI l2), (3, vI l3), (4, vI l4), (5, vI l5), (6, vI l6)]) e_X12_pour_8.1 (by decide) rfl ?_
      refine R_aload_n e_X12_pour_8.2.1 1 rfl ?_
      refine R_getA 12 7 5 e_X12_pour_8.2.2.1 f_X12_27 km_0 (fun _ _ => rfl) rm_0_7 (by decide) ?_
      refine R_bipush e_X12_pour_8.2.2.2.1 (by decide) ?_
      refine R_iload_n e_X12_pour_8.2.2.2.2.1 4 rfl ?_
      refine R_imul e_X12_pour_8.2.2.2.2.2.1 ?_
      refine R_iload e_X12_pour_8.2.2.2.2.2.2.1 5 rfl ?_
      refine R_iadd e_X12_pour_8.2.2.2.2.2.2.2.1 ?_
      refine R_iload e_X12_pour_8.2.2.2.2.2.2.2.2.1 0 rfl ?_
      refine R_iadd e_X12_pour_8.2.2.2.2.2.2.2.2.2 ?_
      refine R_aload_n e_X12_pour_9.1 1 rfl ?_
      refine R_getA 12 7 5 e_X12_pour_9.2.1 f_X12_27 km_0 (fun _ _ => rfl) rm_0_7 (by decide) ?_
      refine R_bipush e_X12_pour_9.2.2.1 (by decide) ?_
      refine R_iload_n e_X12_pour_9.2.2.2.1 2 rfl ?_
      refine R_imul e_X12_pour_9.2.2.2.2.1 ?_
      refine R_iload_n e_X12_pour_9.2.2.2.2.2.1 3 rfl ?_
      refine R_iadd e_X12_pour_9.2.2.2.2.2.2.1 ?_
      refine R_iload e_X12_pour_9.2.2.2.2.2.2.2.1 0 rfl ?_
      refine R_iadd e_X12_pour_9.2.2.2.2.2.2.2.2.1 ?_
      obtain ⟨q61, h⟩ := h
      refine R_lald 240 e_X12_pour_9.2.2.2.2.2.2.2.2.2 kma_5 q61 ?_
      obtain ⟨q62, h⟩ := h
      refine R_last 240 WM_ok e_X12_pour_10.1 kma_5 q62 ?_
      refine R_iinc (ls2 := [(6, vI (l6 + 1)), (7, vI ((l5 - 1) - l6)), (0, vA G 0), (1, vI l1), (2, vI l2), (3, vI l3), (4, vI l4), (5, vI l5)]) e_X12_pour_10.2.1 7 rfl (by decide) rfl ?_
      refine R_goto 118 e_X12_pour_10.2.2.1 (by decide) ?_
      refine R_ls (ls2 := [(0, vA G 0), (1, vI l1), (2, vI l2), (3, vI l3), (4, vI l4), (5, vI l5), (6, vI (l6 + 1))]) [2, 3, 4, 5, 6, 7, 0] rfl ?_
      exact h
/-! KiteLandModel.isFrom(JJJ)Z -/
theorem e_X12_isFrom_0 : decode cX12_isFrom 0 = .ok (.lload_n 0, 1) ∧ decode cX12_isFrom 1 = .ok (.lload_n 2, 1) ∧ decode cX12_isFrom 2 = .ok (.lcmp, 1) ∧ decode cX12_isFrom 3 = .ok (.ifCond .lt 14, 3) ∧ decode cX12_isFrom 6 = .ok (.lload_n 0, 1) ∧ decode cX12_isFrom 7 = .ok (.lload 4, 2) ∧ decode cX12_isFrom 9 = .ok (.lcmp, 1) ∧ decode cX12_isFrom 10 = .ok (.ifCond .gt 7, 3) ∧ decode cX12_isFrom 13 = .ok (.iconst 1, 1) ∧ decode cX12_isFrom 14 = .ok (.goto 4, 3) := by decide +kernel
theorem e_X12_isFrom_1 : decode cX12_isFrom 17 = .ok (.iconst 0, 1) ∧ decode cX12_isFrom 18 = .ok (.ireturn, 1) := by decide +kernel
theorem S_X12_isFrom {G : Kg} {σ : Kmem} {Q : Int → Kmem → Prop} {l0 l2 l4 : Int}  (h : (rL l0) ∧ (rL l2) ∧ ((l0 < l2 → Q 0 σ) ∧ (l2 ≤ l0 → (rL l4) ∧ ((l4 < l0 → Q 0 σ) ∧ (l0 ≤ l4 → Q 1 σ))))) : Run G WM M_X12_isFrom 0 0 0 [vL l0, vL l2, vL l4] σ Q := by
  refine Run.of (by decide +kernel) (by show (6 : Nat) ≤ 6; decide) ?_
  show Ex G WM M_X12_isFrom 0 0 0 0 [(0, vL l0), (2, vL l2), (4, vL l4)] [] σ Q
  refine R_lload_n e_X12_isFrom_0.1 0 rfl ?_
  refine R_lload_n e_X12_isFrom_0.2.1 1 rfl ?_
  obtain ⟨q1, h⟩ := h
  obtain ⟨q2, h⟩ := h
  refine R_lcmp e_X12_isFrom_0.2.2.1 q1 q2 ?_
  refine R_if_lt 17 e_X12_isFrom_0.2.2.2.1 (by decide) (kcmp_r _ _) (fun q => ?_) (fun q => ?_)
  · replace h := h.1 (kcmp_lt_t.mp q)
    refine R_iconst e_X12_isFrom_1.1 ?_
    exact R_zreturn e_X12_isFrom_1.2 rfl (Or.inl rfl) h
  · replace h := h.2 (kcmp_lt_f.mp q)
    refine R_lload_n e_X12_isFrom_0.2.2.2.2.1 0 rfl ?_
    refine R_lload e_X12_isFrom_0.2.2.2.2.2.1 2 rfl ?_
    obtain ⟨q3, h⟩ := h
    refine R_lcmp e_X12_isFrom_0.2.2.2.2.2.2.1 q1 q3 ?_
    refine R_if_gt 17 e_X12_isFrom_0.2.2.2.2.2.2.2.1 (by decide) (kcmp_r _ _) (fun q => ?_) (fun q => ?_)
    · replace h := h.1 (kcmp_gt_t.mp q)
      refine R_iconst e_X12_isFrom_1.1 ?_
      exact R_zreturn e_X12_isFrom_1.2 rfl (Or.inl rfl) h
    · replace h := h.2 (kcmp_gt_f.mp q)
      refine R_iconst e_X12_isFrom_0.2.2.2.2.2.2.2.2.1 ?_
      refine R_goto 18 e_X12_isFrom_0.2.2.2.2.2.2.2.2.2 (by decide) ?_
      exact R_zreturn e_X12_isFrom_1.2 rfl (Or.inr rfl) h
/-! KiteLandModel.feed(IIIII)I -/
theorem e_X12_feed_0 : decode cX12_feed 0 = .ok (.aload_n 0, 1) ∧ decode cX12_feed 1 = .ok (.getfield 117, 3) ∧ decode cX12_feed 4 = .ok (.bipush 20, 2) ∧ decode cX12_feed 6 = .ok (.iadd, 1) ∧ decode cX12_feed 7 = .ok (.sipush 900, 3) ∧ decode cX12_feed 10 = .ok (.if_icmp .le 5, 3) ∧ decode cX12_feed 13 = .ok (.iconst (-1), 1) ∧ decode cX12_feed 14 = .ok (.ireturn, 1) ∧ decode cX12_feed 15 = .ok (.aload_n 0, 1) ∧ decode cX12_feed 16 = .ok (.iload_n 1, 1) := by decide +kernel
theorem e_X12_feed_1 : decode cX12_feed 17 = .ok (.invokevirtual 120, 3) ∧ decode cX12_feed 20 = .ok (.aload_n 0, 1) ∧ decode cX12_feed 21 = .ok (.iload_n 2, 1) ∧ decode cX12_feed 22 = .ok (.invokevirtual 120, 3) ∧ decode cX12_feed 25 = .ok (.aload_n 0, 1) ∧ decode cX12_feed 26 = .ok (.iload_n 3, 1) ∧ decode cX12_feed 27 = .ok (.invokevirtual 120, 3) ∧ decode cX12_feed 30 = .ok (.aload_n 0, 1) ∧ decode cX12_feed 31 = .ok (.iload 4, 2) ∧ decode cX12_feed 33 = .ok (.invokevirtual 120, 3) := by decide +kernel
theorem e_X12_feed_2 : decode cX12_feed 36 = .ok (.aload_n 0, 1) ∧ decode cX12_feed 37 = .ok (.iload 5, 2) ∧ decode cX12_feed 39 = .ok (.invokevirtual 120, 3) ∧ decode cX12_feed 42 = .ok (.aload_n 0, 1) ∧ decode cX12_feed 43 = .ok (.getfield 117, 3) ∧ decode cX12_feed 46 = .ok (.ireturn, 1) := by decide +kernel
theorem S_X12_feed {G : Kg} {σ : Kmem} {Q : Int → Kmem → Prop} {l1 l2 l3 l4 l5 : Int}  (h : (rI ((σ 0 10) + 20)) ∧ (((σ 0 10) + 20 ≤ 900 → Run G WM M_X12_four 0 0 0 [vA G 0, vI l1] σ (fun r2 s3 => Run G WM M_X12_four 0 0 0 [vA G 0, vI l2] s3 (fun r4 s5 => Run G WM M_X12_four 0 0 0 [vA G 0, vI l3] s5 (fun r6 s7 => Run G WM M_X12_four 0 0 0 [vA G 0, vI l4] s7 (fun r8 s9 => Run G WM M_X12_four 0 0 0 [vA G 0, vI l5] s9 (fun r10 s11 => Q (s11 0 10) s11)))))) ∧ (900 < (σ 0 10) + 20 → Q (-1) σ))) : Run G WM M_X12_feed 1 0 0 [vA G 0, vI l1, vI l2, vI l3, vI l4, vI l5] σ Q := by
  refine Run.of (by decide +kernel) (by show (6 : Nat) ≤ 6; decide) ?_
  show Ex G WM M_X12_feed 1 0 0 0 [(0, vA G 0), (1, vI l1), (2, vI l2), (3, vI l3), (4, vI l4), (5, vI l5)] [] σ Q
  refine R_aload_n e_X12_feed_0.1 0 rfl ?_
  refine R_getI 12 10 10 e_X12_feed_0.2.1 f_X12_117 km_0 (fun _ _ => rfl) rfl ?_
  refine R_bipush e_X12_feed_0.2.2.1 (by decide) ?_
  refine R_iadd e_X12_feed_0.2.2.2.1 ?_
  refine R_sipush e_X12_feed_0.2.2.2.2.1 (by decide) ?_
  obtain ⟨q1, h⟩ := h
  refine R_icmp_le 15 e_X12_feed_0.2.2.2.2.2.1 (by decide) q1 (by decide) (fun q => ?_) (fun q => ?_)
  · replace h := h.1 q
    refine R_aload_n e_X12_feed_0.2.2.2.2.2.2.2.2.1 0 rfl ?_
    refine R_iload_n e_X12_feed_0.2.2.2.2.2.2.2.2.2 1 rfl ?_
    refine R_callV (mc := 0) (ms := 0) (mc' := 0) (ms' := 0) (M' := M_X12_four) (d' := 0) (as := [vI l1]) (st := []) 12 1 e_X12_feed_1.1 (kCVof m_X12_four l_X12_120) rfl (by decide) km_0 (by decide) (by decide) rfl rfl (by show (0 : Nat) ≤ 8; decide) ?_
    refine Run.mono h (fun r2 s3 h => ?_)
    refine R_eqs (st2 := []) rfl rfl ?_
    refine R_aload_n e_X12_feed_1.2.1 0 rfl ?_
    refine R_iload_n e_X12_feed_1.2.2.1 2 rfl ?_
    refine R_callV (mc := 0) (ms := 0) (mc' := 0) (ms' := 0) (M' := M_X12_four) (d' := 0) (as := [vI l2]) (st := []) 12 1 e_X12_feed_1.2.2.2.1 (kCVof m_X12_four l_X12_120) rfl (by decide) km_0 (by decide) (by decide) rfl rfl (by show (0 : Nat) ≤ 8; decide) ?_
    refine Run.mono h (fun r4 s5 h => ?_)
    refine R_eqs (st2 := []) rfl rfl ?_
    refine R_aload_n e_X12_feed_1.2.2.2.2.1 0 rfl ?_
    refine R_iload_n e_X12_feed_1.2.2.2.2.2.1 3 rfl ?_
    refine R_callV (mc := 0) (ms := 0) (mc' := 0) (ms' := 0) (M' := M_X12_four) (d' := 0) (as := [vI l3]) (st := []) 12 1 e_X12_feed_1.2.2.2.2.2.2.1 (kCVof m_X12_four l_X12_120) rfl (by decide) km_0 (by decide) (by decide) rfl rfl (by show (0 : Nat) ≤ 8; decide) ?_
    refine Run.mono h (fun r6 s7 h => ?_)
    refine R_eqs (st2 := []) rfl rfl ?_
    refine R_aload_n e_X12_feed_1.2.2.2.2.2.2.2.1 0 rfl ?_
    refine R_iload e_X12_feed_1.2.2.2.2.2.2.2.2.1 4 rfl ?_
    refine R_callV (mc := 0) (ms := 0) (mc' := 0) (ms' := 0) (M' := M_X12_four) (d' := 0) (as := [vI l4]) (st := []) 12 1 e_X12_feed_1.2.2.2.2.2.2.2.2.2 (kCVof m_X12_four l_X12_120) rfl (by decide) km_0 (by decide) (by decide) rfl rfl (by show (0 : Nat) ≤ 8; decide) ?_
    refine Run.mono h (fun r8 s9 h => ?_)
    refine R_eqs (st2 := []) rfl rfl ?_
    refine R_aload_n e_X12_feed_2.1 0 rfl ?_
    refine R_iload e_X12_feed_2.2.1 5 rfl ?_
    refine R_callV (mc := 0) (ms := 0) (mc' := 0) (ms' := 0) (M' := M_X12_four) (d' := 0) (as := [vI l5]) (st := []) 12 1 e_X12_feed_2.2.2.1 (kCVof m_X12_four l_X12_120) rfl (by decide) km_0 (by decide) (by decide) rfl rfl (by show (0 : Nat) ≤ 8; decide) ?_
    refine Run.mono h (fun r10 s11 h => ?_)
    refine R_eqs (st2 := []) rfl rfl ?_
    refine R_aload_n e_X12_feed_2.2.2.2.1 0 rfl ?_
    refine R_getI 12 10 10 e_X12_feed_2.2.2.2.2.1 f_X12_117 km_0 (fun _ _ => rfl) rfl ?_
    exact R_ireturn e_X12_feed_2.2.2.2.2.2 rfl h
  · replace h := h.2 q
    refine R_iconst e_X12_feed_0.2.2.2.2.2.2.1 ?_
    exact R_ireturn e_X12_feed_0.2.2.2.2.2.2.2.1 rfl h
/-! KiteLandModel.four(I)V -/
theorem e_X12_four_0 : decode cX12_four 0 = .ok (.bipush 24, 2) ∧ decode cX12_four 2 = .ok (.istore_n 2, 1) ∧ decode cX12_four 3 = .ok (.iload_n 2, 1) ∧ decode cX12_four 4 = .ok (.ifCond .lt 32, 3) ∧ decode cX12_four 7 = .ok (.aload_n 0, 1) ∧ decode cX12_four 8 = .ok (.getfield 30, 3) ∧ decode cX12_four 11 = .ok (.aload_n 0, 1) ∧ decode cX12_four 12 = .ok (.getfield 117, 3) ∧ decode cX12_four 15 = .ok (.iload_n 1, 1) ∧ decode cX12_four 16 = .ok (.iload_n 2, 1) := by decide +kernel
theorem e_X12_four_1 : decode cX12_four 17 = .ok (.ishr, 1) ∧ decode cX12_four 18 = .ok (.i2b, 1) ∧ decode cX12_four 19 = .ok (.bastore, 1) ∧ decode cX12_four 20 = .ok (.aload_n 0, 1) ∧ decode cX12_four 21 = .ok (.dup, 1) ∧ decode cX12_four 22 = .ok (.getfield 117, 3) ∧ decode cX12_four 25 = .ok (.iconst 1, 1) ∧ decode cX12_four 26 = .ok (.iadd, 1) ∧ decode cX12_four 27 = .ok (.putfield 117, 3) ∧ decode cX12_four 30 = .ok (.iinc 2 (-8), 3) := by decide +kernel
theorem e_X12_four_2 : decode cX12_four 33 = .ok (.goto (-30), 3) ∧ decode cX12_four 36 = .ok (.return_, 1) := by decide +kernel
abbrev E_X12_four_3 (G : Kg) (l1 l2 : Int) (σ : Kmem) (Q : Int → Kmem → Prop) : Prop := Ex G WM M_X12_four 0 0 0 3 [(0, vA G 0), (1, vI l1), (2, vI l2)] [] σ Q
theorem S_X12_four {G : Kg} {σ : Kmem} {Q : Int → Kmem → Prop} {l1 : Int}  (h : E_X12_four_3 G l1 24 σ Q) : Run G WM M_X12_four 0 0 0 [vA G 0, vI l1] σ Q := by
  refine Run.of (by decide +kernel) (by show (2 : Nat) ≤ 3; decide) ?_
  show Ex G WM M_X12_four 0 0 0 0 [(0, vA G 0), (1, vI l1)] [] σ Q
  refine R_bipush e_X12_four_0.1 (by decide) ?_
  refine R_istore_n (ls2 := [(2, vI 24), (0, vA G 0), (1, vI l1)]) e_X12_four_0.2.1 (by decide) rfl ?_
  refine R_ls (ls2 := [(0, vA G 0), (1, vI l1), (2, vI 24)]) [1, 2, 0] rfl ?_
  exact h
theorem S_X12_four_3 {G : Kg} {σ : Kmem} {Q : Int → Kmem → Prop} {l1 l2 : Int}  (h : (rI l2) ∧ ((l2 < 0 → Q 0 σ) ∧ (0 ≤ l2 → (0 ≤ σ 0 10 ∧ σ 0 10 < 900) ∧ E_X12_four_3 G l1 (l2 + (-8)) (kup (kup σ 6 (σ 0 10) (ki2b (ki2b (kshr l1 l2)))) 0 10 (((kup σ 6 (σ 0 10) (ki2b (ki2b (kshr l1 l2)))) 0 10) + 1)) Q))) : E_X12_four_3 G l1 l2 σ Q := by
  refine R_iload_n e_X12_four_0.2.2.1 2 rfl ?_
  obtain ⟨q1, h⟩ := h
  refine R_if_lt 36 e_X12_four_0.2.2.2.1 (by decide) q1  (fun q => ?_) (fun q => ?_)
  · replace h := h.1 q
    exact R_return e_X12_four_2.2 rfl h
  · replace h := h.2 q
    refine R_aload_n e_X12_four_0.2.2.2.2.1 0 rfl ?_
    refine R_getA 12 8 6 e_X12_four_0.2.2.2.2.2.1 f_X12_30 km_0 (fun _ _ => rfl) rm_0_8 (by decide) ?_
    refine R_aload_n e_X12_four_0.2.2.2.2.2.2.1 0 rfl ?_
    refine R_getI 12 10 10 e_X12_four_0.2.2.2.2.2.2.2.1 f_X12_117 km_0 (fun _ _ => rfl) rfl ?_
    refine R_iload_n e_X12_four_0.2.2.2.2.2.2.2.2.1 1 rfl ?_
    refine R_iload_n e_X12_four_0.2.2.2.2.2.2.2.2.2 2 rfl ?_
    refine R_ishr e_X12_four_1.1 ?_
    refine R_i2b e_X12_four_1.2.1 ?_
    obtain ⟨q2, h⟩ := h
    refine R_bast 900 WM_ok e_X12_four_1.2.2.1 kma_6 q2 ?_
    refine R_aload_n e_X12_four_1.2.2.2.1 0 rfl ?_
    refine R_dup e_X12_four_1.2.2.2.2.1 rfl ?_
    refine R_getI 12 10 10 e_X12_four_1.2.2.2.2.2.1 f_X12_117 km_0 (fun _ _ => rfl) rfl ?_
    refine R_iconst e_X12_four_1.2.2.2.2.2.2.1 ?_
    refine R_iadd e_X12_four_1.2.2.2.2.2.2.2.1 ?_
    refine R_putI 12 10 10 WM_ok e_X12_four_1.2.2.2.2.2.2.2.2.1 f_X12_117 km_0 rfl rfl rfl ?_
    refine R_iinc (ls2 := [(2, vI (l2 + (-8))), (0, vA G 0), (1, vI l1)]) e_X12_four_1.2.2.2.2.2.2.2.2.2 2 rfl (by decide) rfl ?_
    refine R_goto 3 e_X12_four_2.1 (by decide) ?_
    refine R_ls (ls2 := [(0, vA G 0), (1, vI l1), (2, vI (l2 + (-8)))]) [1, 2, 0] rfl ?_
    exact h
/-! KiteLandModel.byteAt(I)I -/
theorem e_X12_byteAt_0 : decode cX12_byteAt 0 = .ok (.iload_n 1, 1) ∧ decode cX12_byteAt 1 = .ok (.aload_n 0, 1) ∧ decode cX12_byteAt 2 = .ok (.getfield 123, 3) ∧ decode cX12_byteAt 5 = .ok (.if_icmp .ge 16, 3) ∧ decode cX12_byteAt 8 = .ok (.aload_n 0, 1) ∧ decode cX12_byteAt 9 = .ok (.getfield 34, 3) ∧ decode cX12_byteAt 12 = .ok (.iload_n 1, 1) ∧ decode cX12_byteAt 13 = .ok (.baload, 1) ∧ decode cX12_byteAt 14 = .ok (.sipush 255, 3) ∧ decode cX12_byteAt 17 = .ok (.iand, 1) := by decide +kernel
theorem e_X12_byteAt_1 : decode cX12_byteAt 18 = .ok (.goto 4, 3) ∧ decode cX12_byteAt 21 = .ok (.iconst (-1), 1) ∧ decode cX12_byteAt 22 = .ok (.ireturn, 1) := by decide +kernel
theorem S_X12_byteAt {G : Kg} {σ : Kmem} {Q : Int → Kmem → Prop} {l1 : Int}  (h : (rI l1) ∧ (rI (σ 0 11)) ∧ ((σ 0 11 ≤ l1 → Q (-1) σ) ∧ (l1 < σ 0 11 → (0 ≤ l1 ∧ l1 < 900) ∧ Q (kand (σ 7 l1) 255) σ))) : Run G WM M_X12_byteAt 0 0 0 [vA G 0, vI l1] σ Q := by
  refine Run.of (by decide +kernel) (by show (2 : Nat) ≤ 2; decide) ?_
  show Ex G WM M_X12_byteAt 0 0 0 0 [(0, vA G 0), (1, vI l1)] [] σ Q
  refine R_iload_n e_X12_byteAt_0.1 1 rfl ?_
  refine R_aload_n e_X12_byteAt_0.2.1 0 rfl ?_
  refine R_getI 12 11 11 e_X12_byteAt_0.2.2.1 f_X12_123 km_0 (fun _ _ => rfl) rfl ?_
  obtain ⟨q1, h⟩ := h
  obtain ⟨q2, h⟩ := h
  refine R_icmp_ge 21 e_X12_byteAt_0.2.2.2.1 (by decide) q1 q2 (fun q => ?_) (fun q => ?_)
  · replace h := h.1 q
    refine R_iconst e_X12_byteAt_1.2.1 ?_
    exact R_ireturn e_X12_byteAt_1.2.2 rfl h
  · replace h := h.2 q
    refine R_aload_n e_X12_byteAt_0.2.2.2.2.1 0 rfl ?_
    refine R_getA 12 9 7 e_X12_byteAt_0.2.2.2.2.2.1 f_X12_34 km_0 (fun _ _ => rfl) rm_0_9 (by decide) ?_
    refine R_iload_n e_X12_byteAt_0.2.2.2.2.2.2.1 1 rfl ?_
    obtain ⟨q3, h⟩ := h
    refine R_bald 900 e_X12_byteAt_0.2.2.2.2.2.2.2.1 kma_7 q3 ?_
    refine R_sipush e_X12_byteAt_0.2.2.2.2.2.2.2.2.1 (by decide) ?_
    refine R_iand e_X12_byteAt_0.2.2.2.2.2.2.2.2.2 ?_
    refine R_goto 22 e_X12_byteAt_1.1 (by decide) ?_
    exact R_ireturn e_X12_byteAt_1.2.2 rfl h
/-! KiteLandModel.isSmall(I)Z -/
theorem e_X12_isSmall_0 : decode cX12_isSmall 0 = .ok (.iload_n 0, 1) ∧ decode cX12_isSmall 1 = .ok (.bipush 97, 2) ∧ decode cX12_isSmall 3 = .ok (.if_icmp .lt 13, 3) ∧ decode cX12_isSmall 6 = .ok (.iload_n 0, 1) ∧ decode cX12_isSmall 7 = .ok (.bipush 122, 2) ∧ decode cX12_isSmall 9 = .ok (.if_icmp .gt 7, 3) ∧ decode cX12_isSmall 12 = .ok (.iconst 1, 1) ∧ decode cX12_isSmall 13 = .ok (.goto 4, 3) ∧ decode cX12_isSmall 16 = .ok (.iconst 0, 1) ∧ decode cX12_isSmall 17 = .ok (.ireturn, 1) := by decide +kernel
theorem S_X12_isSmall {G : Kg} {σ : Kmem} {Q : Int → Kmem → Prop} {l0 : Int}  (h : (rI l0) ∧ ((l0 < 97 → Q 0 σ) ∧ (97 ≤ l0 → ((122 < l0 → Q 0 σ) ∧ (l0 ≤ 122 → Q 1 σ))))) : Run G WM M_X12_isSmall 0 0 0 [vI l0] σ Q := by
  refine Run.of (by decide +kernel) (by show (1 : Nat) ≤ 1; decide) ?_
  show Ex G WM M_X12_isSmall 0 0 0 0 [(0, vI l0)] [] σ Q
  refine R_iload_n e_X12_isSmall_0.1 0 rfl ?_
  refine R_bipush e_X12_isSmall_0.2.1 (by decide) ?_
  obtain ⟨q1, h⟩ := h
  refine R_icmp_lt 16 e_X12_isSmall_0.2.2.1 (by decide) q1 (by decide) (fun q => ?_) (fun q => ?_)
  · replace h := h.1 q
    refine R_iconst e_X12_isSmall_0.2.2.2.2.2.2.2.2.1 ?_
    exact R_zreturn e_X12_isSmall_0.2.2.2.2.2.2.2.2.2 rfl (Or.inl rfl) h
  · replace h := h.2 q
    refine R_iload_n e_X12_isSmall_0.2.2.2.1 0 rfl ?_
    refine R_bipush e_X12_isSmall_0.2.2.2.2.1 (by decide) ?_
    refine R_icmp_gt 16 e_X12_isSmall_0.2.2.2.2.2.1 (by decide) q1 (by decide) (fun q => ?_) (fun q => ?_)
    · replace h := h.1 q
      refine R_iconst e_X12_isSmall_0.2.2.2.2.2.2.2.2.1 ?_
      exact R_zreturn e_X12_isSmall_0.2.2.2.2.2.2.2.2.2 rfl (Or.inl rfl) h
    · replace h := h.2 q
      refine R_iconst e_X12_isSmall_0.2.2.2.2.2.2.1 ?_
      refine R_goto 17 e_X12_isSmall_0.2.2.2.2.2.2.2.1 (by decide) ?_
      exact R_zreturn e_X12_isSmall_0.2.2.2.2.2.2.2.2.2 rfl (Or.inr rfl) h
/-! KiteLandModel.isDigit(I)Z -/
theorem e_X12_isDigit_0 : decode cX12_isDigit 0 = .ok (.iload_n 0, 1) ∧ decode cX12_isDigit 1 = .ok (.bipush 48, 2) ∧ decode cX12_isDigit 3 = .ok (.if_icmp .lt 13, 3) ∧ decode cX12_isDigit 6 = .ok (.iload_n 0, 1) ∧ decode cX12_isDigit 7 = .ok (.bipush 57, 2) ∧ decode cX12_isDigit 9 = .ok (.if_icmp .gt 7, 3) ∧ decode cX12_isDigit 12 = .ok (.iconst 1, 1) ∧ decode cX12_isDigit 13 = .ok (.goto 4, 3) ∧ decode cX12_isDigit 16 = .ok (.iconst 0, 1) ∧ decode cX12_isDigit 17 = .ok (.ireturn, 1) := by decide +kernel
theorem S_X12_isDigit {G : Kg} {σ : Kmem} {Q : Int → Kmem → Prop} {l0 : Int}  (h : (rI l0) ∧ ((l0 < 48 → Q 0 σ) ∧ (48 ≤ l0 → ((57 < l0 → Q 0 σ) ∧ (l0 ≤ 57 → Q 1 σ))))) : Run G WM M_X12_isDigit 0 0 0 [vI l0] σ Q := by
  refine Run.of (by decide +kernel) (by show (1 : Nat) ≤ 1; decide) ?_
  show Ex G WM M_X12_isDigit 0 0 0 0 [(0, vI l0)] [] σ Q
  refine R_iload_n e_X12_isDigit_0.1 0 rfl ?_
  refine R_bipush e_X12_isDigit_0.2.1 (by decide) ?_
  obtain ⟨q1, h⟩ := h
  refine R_icmp_lt 16 e_X12_isDigit_0.2.2.1 (by decide) q1 (by decide) (fun q => ?_) (fun q => ?_)
  · replace h := h.1 q
    refine R_iconst e_X12_isDigit_0.2.2.2.2.2.2.2.2.1 ?_
    exact R_zreturn e_X12_isDigit_0.2.2.2.2.2.2.2.2.2 rfl (Or.inl rfl) h
  · replace h := h.2 q
    refine R_iload_n e_X12_isDigit_0.2.2.2.1 0 rfl ?_
    refine R_bipush e_X12_isDigit_0.2.2.2.2.1 (by decide) ?_
    refine R_icmp_gt 16 e_X12_isDigit_0.2.2.2.2.2.1 (by decide) q1 (by decide) (fun q => ?_) (fun q => ?_)
    · replace h := h.1 q
      refine R_iconst e_X12_isDigit_0.2.2.2.2.2.2.2.2.1 ?_
      exact R_zreturn e_X12_isDigit_0.2.2.2.2.2.2.2.2.2 rfl (Or.inl rfl) h
    · replace h := h.2 q
      refine R_iconst e_X12_isDigit_0.2.2.2.2.2.2.1 ?_
      refine R_goto 17 e_X12_isDigit_0.2.2.2.2.2.2.2.1 (by decide) ?_
      exact R_zreturn e_X12_isDigit_0.2.2.2.2.2.2.2.2.2 rfl (Or.inr rfl) h
/-! KiteLandModel.ahead()V -/
theorem e_X12_ahead_0 : decode cX12_ahead 0 = .ok (.aload_n 0, 1) ∧ decode cX12_ahead 1 = .ok (.aload_n 0, 1) ∧ decode cX12_ahead 2 = .ok (.getfield 126, 3) ∧ decode cX12_ahead 5 = .ok (.invokevirtual 129, 3) ∧ decode cX12_ahead 8 = .ok (.bipush 32, 2) ∧ decode cX12_ahead 10 = .ok (.if_icmp .eq 16, 3) ∧ decode cX12_ahead 13 = .ok (.aload_n 0, 1) ∧ decode cX12_ahead 14 = .ok (.aload_n 0, 1) ∧ decode cX12_ahead 15 = .ok (.getfield 126, 3) ∧ decode cX12_ahead 18 = .ok (.invokevirtual 129, 3) := by decide +kernel
theorem e_X12_ahead_1 : decode cX12_ahead 21 = .ok (.bipush 10, 2) ∧ decode cX12_ahead 23 = .ok (.if_icmp .ne 16, 3) ∧ decode cX12_ahead 26 = .ok (.aload_n 0, 1) ∧ decode cX12_ahead 27 = .ok (.dup, 1) ∧ decode cX12_ahead 28 = .ok (.getfield 126, 3) ∧ decode cX12_ahead 31 = .ok (.iconst 1, 1) ∧ decode cX12_ahead 32 = .ok (.iadd, 1) ∧ decode cX12_ahead 33 = .ok (.putfield 126, 3) ∧ decode cX12_ahead 36 = .ok (.goto (-36), 3) ∧ decode cX12_ahead 39 = .ok (.aload_n 0, 1) := by decide +kernel
theorem e_X12_ahead_2 : decode cX12_ahead 40 = .ok (.aload_n 0, 1) ∧ decode cX12_ahead 41 = .ok (.getfield 126, 3) ∧ decode cX12_ahead 44 = .ok (.putfield 132, 3) ∧ decode cX12_ahead 47 = .ok (.aload_n 0, 1) ∧ decode cX12_ahead 48 = .ok (.aload_n 0, 1) ∧ decode cX12_ahead 49 = .ok (.getfield 126, 3) ∧ decode cX12_ahead 52 = .ok (.invokevirtual 129, 3) ∧ decode cX12_ahead 55 = .ok (.istore_n 1, 1) ∧ decode cX12_ahead 56 = .ok (.aload_n 0, 1) ∧ decode cX12_ahead 57 = .ok (.iload_n 1, 1) := by decide +kernel
theorem e_X12_ahead_3 : decode cX12_ahead 58 = .ok (.putfield 135, 3) ∧ decode cX12_ahead 61 = .ok (.iload_n 1, 1) ∧ decode cX12_ahead 62 = .ok (.iconst (-1), 1) ∧ decode cX12_ahead 63 = .ok (.if_icmp .ne 11, 3) ∧ decode cX12_ahead 66 = .ok (.aload_n 0, 1) ∧ decode cX12_ahead 67 = .ok (.iconst 0, 1) ∧ decode cX12_ahead 68 = .ok (.putfield 138, 3) ∧ decode cX12_ahead 71 = .ok (.goto 180, 3) ∧ decode cX12_ahead 74 = .ok (.iload_n 1, 1) ∧ decode cX12_ahead 75 = .ok (.invokestatic 141, 3) := by decide +kernel
theorem e_X12_ahead_4 : decode cX12_ahead 78 = .ok (.ifCond .eq 38, 3) ∧ decode cX12_ahead 81 = .ok (.aload_n 0, 1) ∧ decode cX12_ahead 82 = .ok (.aload_n 0, 1) ∧ decode cX12_ahead 83 = .ok (.getfield 126, 3) ∧ decode cX12_ahead 86 = .ok (.invokevirtual 129, 3) ∧ decode cX12_ahead 89 = .ok (.invokestatic 141, 3) ∧ decode cX12_ahead 92 = .ok (.ifCond .eq 16, 3) ∧ decode cX12_ahead 95 = .ok (.aload_n 0, 1) ∧ decode cX12_ahead 96 = .ok (.dup, 1) ∧ decode cX12_ahead 97 = .ok (.getfield 126, 3) := by decide +kernel
theorem e_X12_ahead_5 : decode cX12_ahead 100 = .ok (.iconst 1, 1) ∧ decode cX12_ahead 101 = .ok (.iadd, 1) ∧ decode cX12_ahead 102 = .ok (.putfield 126, 3) ∧ decode cX12_ahead 105 = .ok (.goto (-24), 3) ∧ decode cX12_ahead 108 = .ok (.aload_n 0, 1) ∧ decode cX12_ahead 109 = .ok (.iconst 2, 1) ∧ decode cX12_ahead 110 = .ok (.putfield 138, 3) ∧ decode cX12_ahead 113 = .ok (.goto 138, 3) ∧ decode cX12_ahead 116 = .ok (.iload_n 1, 1) ∧ decode cX12_ahead 117 = .ok (.invokestatic 144, 3) := by decide +kernel
theorem e_X12_ahead_6 : decode cX12_ahead 120 = .ok (.ifCond .eq 88, 3) ∧ decode cX12_ahead 123 = .ok (.aload_n 0, 1) ∧ decode cX12_ahead 124 = .ok (.iconst 0, 1) ∧ decode cX12_ahead 125 = .ok (.putfield 135, 3) ∧ decode cX12_ahead 128 = .ok (.aload_n 0, 1) ∧ decode cX12_ahead 129 = .ok (.aload_n 0, 1) ∧ decode cX12_ahead 130 = .ok (.getfield 126, 3) ∧ decode cX12_ahead 133 = .ok (.invokevirtual 129, 3) ∧ decode cX12_ahead 136 = .ok (.invokestatic 144, 3) ∧ decode cX12_ahead 139 = .ok (.ifCond .eq 44, 3) := by decide +kernel
theorem e_X12_ahead_7 : decode cX12_ahead 142 = .ok (.aload_n 0, 1) ∧ decode cX12_ahead 143 = .ok (.ldc 147, 2) ∧ decode cX12_ahead 145 = .ok (.bipush 10, 2) ∧ decode cX12_ahead 147 = .ok (.aload_n 0, 1) ∧ decode cX12_ahead 148 = .ok (.getfield 135, 3) ∧ decode cX12_ahead 151 = .ok (.imul, 1) ∧ decode cX12_ahead 152 = .ok (.aload_n 0, 1) ∧ decode cX12_ahead 153 = .ok (.aload_n 0, 1) ∧ decode cX12_ahead 154 = .ok (.getfield 126, 3) ∧ decode cX12_ahead 157 = .ok (.invokevirtual 129, 3) := by decide +kernel
theorem e_X12_ahead_8 : decode cX12_ahead 160 = .ok (.iadd, 1) ∧ decode cX12_ahead 161 = .ok (.bipush 48, 2) ∧ decode cX12_ahead 163 = .ok (.isub, 1) ∧ decode cX12_ahead 164 = .ok (.invokestatic 148, 3) ∧ decode cX12_ahead 167 = .ok (.putfield 135, 3) ∧ decode cX12_ahead 170 = .ok (.aload_n 0, 1) ∧ decode cX12_ahead 171 = .ok (.dup, 1) ∧ decode cX12_ahead 172 = .ok (.getfield 126, 3) ∧ decode cX12_ahead 175 = .ok (.iconst 1, 1) ∧ decode cX12_ahead 176 = .ok (.iadd, 1) := by decide +kernel
theorem e_X12_ahead_9 : decode cX12_ahead 177 = .ok (.putfield 126, 3) ∧ decode cX12_ahead 180 = .ok (.goto (-52), 3) ∧ decode cX12_ahead 183 = .ok (.aload_n 0, 1) ∧ decode cX12_ahead 184 = .ok (.aload_n 0, 1) ∧ decode cX12_ahead 185 = .ok (.getfield 126, 3) ∧ decode cX12_ahead 188 = .ok (.aload_n 0, 1) ∧ decode cX12_ahead 189 = .ok (.getfield 132, 3) ∧ decode cX12_ahead 192 = .ok (.isub, 1) ∧ decode cX12_ahead 193 = .ok (.iconst 4, 1) ∧ decode cX12_ahead 194 = .ok (.if_icmp .le 7, 3) := by decide +kernel
theorem e_X12_ahead_10 : decode cX12_ahead 197 = .ok (.iconst 1, 1) ∧ decode cX12_ahead 198 = .ok (.goto 4, 3) ∧ decode cX12_ahead 201 = .ok (.iconst 3, 1) ∧ decode cX12_ahead 202 = .ok (.putfield 138, 3) ∧ decode cX12_ahead 205 = .ok (.goto 46, 3) ∧ decode cX12_ahead 208 = .ok (.aload_n 0, 1) ∧ decode cX12_ahead 209 = .ok (.dup, 1) ∧ decode cX12_ahead 210 = .ok (.getfield 126, 3) ∧ decode cX12_ahead 213 = .ok (.iconst 1, 1) ∧ decode cX12_ahead 214 = .ok (.iadd, 1) := by decide +kernel
theorem e_X12_ahead_11 : decode cX12_ahead 215 = .ok (.putfield 126, 3) ∧ decode cX12_ahead 218 = .ok (.aload_n 0, 1) ∧ decode cX12_ahead 219 = .ok (.iload_n 1, 1) ∧ decode cX12_ahead 220 = .ok (.bipush 59, 2) ∧ decode cX12_ahead 222 = .ok (.if_icmp .eq 21, 3) ∧ decode cX12_ahead 225 = .ok (.iload_n 1, 1) ∧ decode cX12_ahead 226 = .ok (.bipush 60, 2) ∧ decode cX12_ahead 228 = .ok (.if_icmp .eq 15, 3) ∧ decode cX12_ahead 231 = .ok (.iload_n 1, 1) ∧ decode cX12_ahead 232 = .ok (.bipush 62, 2) := by decide +kernel
theorem e_X12_ahead_12 : decode cX12_ahead 234 = .ok (.if_icmp .eq 9, 3) ∧ decode cX12_ahead 237 = .ok (.iload_n 1, 1) ∧ decode cX12_ahead 238 = .ok (.bipush 61, 2) ∧ decode cX12_ahead 240 = .ok (.if_icmp .ne 7, 3) ∧ decode cX12_ahead 243 = .ok (.iconst 4, 1) ∧ decode cX12_ahead 244 = .ok (.goto 4, 3) ∧ decode cX12_ahead 247 = .ok (.iconst 1, 1) ∧ decode cX12_ahead 248 = .ok (.putfield 138, 3) ∧ decode cX12_ahead 251 = .ok (.return_, 1) := by decide +kernel
abbrev E_X12_ahead_0 (G : Kg) (σ : Kmem) (Q : Int → Kmem → Prop) : Prop := Ex G WM M_X12_ahead 1 0 0 0 [(0, vA G 0)] [] σ Q
abbrev E_X12_ahead_81 (G : Kg) (σ : Kmem) (Q : Int → Kmem → Prop) : Prop := Ex G WM M_X12_ahead 1 0 0 81 [(0, vA G 0)] [] σ Q
abbrev E_X12_ahead_128 (G : Kg) (σ : Kmem) (Q : Int → Kmem → Prop) : Prop := Ex G WM M_X12_ahead 1 0 0 128 [(0, vA G 0)] [] σ Q
theorem S_X12_ahead {G : Kg} {σ : Kmem} {Q : Int → Kmem → Prop}  (h : Run G WM M_X12_byteAt 0 0 0 [vA G 0, vI (σ 0 14)] σ (fun r1 s2 => (rI r1) ∧ ((r1 = 32 → E_X12_ahead_0 G (kup s2 0 14 ((s2 0 14) + 1)) Q) ∧ (r1 ≠ 32 → Run G WM M_X12_byteAt 0 0 0 [vA G 0, vI (s2 0 14)] s2 (fun r4 s5 => (rI r4) ∧ ((r4 ≠ 10 → Run G WM M_X12_byteAt 0 0 0 [vA G 0, vI ((kup s5 0 13 (s5 0 14)) 0 14)] (kup s5 0 13 (s5 0 14)) (fun r7 s8 => (rI r7) ∧ ((r7 ≠ -1 → Run G WM M_X12_isSmall 0 0 0 [vI r7] (kup s8 0 15 r7) (fun r10 s11 => (rI r10) ∧ ((r10 = 0 → Run G WM M_X12_isDigit 0 0 0 [vI r7] s11 (fun r13 s14 => (rI r13) ∧ ((r13 = 0 → ((r7 = 59 → Q 0 (kup (kup s14 0 14 ((s14 0 14) + 1)) 0 12 4)) ∧ (r7 ≠ 59 → ((r7 = 60 → Q 0 (kup (kup s14 0 14 ((s14 0 14) + 1)) 0 12 4)) ∧ (r7 ≠ 60 → ((r7 = 62 → Q 0 (kup (kup s14 0 14 ((s14 0 14) + 1)) 0 12 4)) ∧ (r7 ≠ 62 → ((r7 ≠ 61 → Q 0 (kup (kup s14 0 14 ((s14 0 14) + 1)) 0 12 1)) ∧ (r7 = 61 → Q 0 (kup (kup s14 0 14 ((s14 0 14) + 1)) 0 12 4)))))))))) ∧ (r13 ≠ 0 → E_X12_ahead_128 G (kup s14 0 15 0) Q)))) ∧ (r10 ≠ 0 → E_X12_ahead_81 G s11 Q)))) ∧ (r7 = -1 → Q 0 (kup (kup s8 0 15 r7) 0 12 0))))) ∧ (r4 = 10 → E_X12_ahead_0 G (kup s5 0 14 ((s5 0 14) + 1)) Q))))))) : Run G WM M_X12_ahead 1 0 0 [vA G 0] σ Q := by
  refine Run.of (by decide +kernel) (by show (1 : Nat) ≤ 2; decide) ?_
  show Ex G WM M_X12_ahead 1 0 0 0 [(0, vA G 0)] [] σ Q
  refine R_aload_n e_X12_ahead_0.1 0 rfl ?_
  refine R_aload_n e_X12_ahead_0.2.1 0 rfl ?_
  refine R_getI 12 14 14 e_X12_ahead_0.2.2.1 f_X12_126 km_0 (fun _ _ => rfl) rfl ?_
  refine R_callV (mc := 0) (ms := 0) (mc' := 0) (ms' := 0) (M' := M_X12_byteAt) (d' := 0) (as := [vI (σ 0 14)]) (st := []) 12 1 e_X12_ahead_0.2.2.2.1 (kCVof m_X12_byteAt l_X12_129) rfl (by decide) km_0 (by decide) (by decide) rfl rfl (by show (0 : Nat) ≤ 8; decide) ?_
  refine Run.mono h (fun r1 s2 h => ?_)
  refine R_eqs (st2 := [vI r1]) rfl rfl ?_
  refine R_bipush e_X12_ahead_0.2.2.2.2.1 (by decide) ?_
  obtain ⟨q3, h⟩ := h
  refine R_icmp_eq 26 e_X12_ahead_0.2.2.2.2.2.1 (by decide) q3 (by decide) (fun q => ?_) (fun q => ?_)
  · replace h := h.1 q
    refine R_aload_n e_X12_ahead_1.2.2.1 0 rfl ?_
    refine R_dup e_X12_ahead_1.2.2.2.1 rfl ?_
    refine R_getI 12 14 14 e_X12_ahead_1.2.2.2.2.1 f_X12_126 km_0 (fun _ _ => rfl) rfl ?_
    refine R_iconst e_X12_ahead_1.2.2.2.2.2.1 ?_
    refine R_iadd e_X12_ahead_1.2.2.2.2.2.2.1 ?_
    refine R_putI 12 14 14 WM_ok e_X12_ahead_1.2.2.2.2.2.2.2.1 f_X12_126 km_0 rfl rfl rfl ?_
    refine R_goto 0 e_X12_ahead_1.2.2.2.2.2.2.2.2.1 (by decide) ?_
    refine R_ls (ls2 := [(0, vA G 0)]) [0] rfl ?_
    exact h
  · replace h := h.2 q
    refine R_aload_n e_X12_ahead_0.2.2.2.2.2.2.1 0 rfl ?_
    refine R_aload_n e_X12_ahead_0.2.2.2.2.2.2.2.1 0 rfl ?_
    refine R_getI 12 14 14 e_X12_ahead_0.2.2.2.2.2.2.2.2.1 f_X12_126 km_0 (fun _ _ => rfl) rfl ?_
    refine R_callV (mc := 0) (ms := 0) (mc' := 0) (ms' := 0) (M' := M_X12_byteAt) (d' := 0) (as := [vI (s2 0 14)]) (st := []) 12 1 e_X12_ahead_0.2.2.2.2.2.2.2.2.2 (kCVof m_X12_byteAt l_X12_129) rfl (by decide) km_0 (by decide) (by decide) rfl rfl (by show (0 : Nat) ≤ 8; decide) ?_
    refine Run.mono h (fun r4 s5 h => ?_)
    refine R_eqs (st2 := [vI r4]) rfl rfl ?_
    refine R_bipush e_X12_ahead_1.1 (by decide) ?_
    obtain ⟨q6, h⟩ := h
    refine R_icmp_ne 39 e_X12_ahead_1.2.1 (by decide) q6 (by decide) (fun q => ?_) (fun q => ?_)
    · replace h := h.1 q
      refine R_aload_n e_X12_ahead_1.2.2.2.2.2.2.2.2.2 0 rfl ?_
      refine R_aload_n e_X12_ahead_2.1 0 rfl ?_
      refine R_getI 12 14 14 e_X12_ahead_2.2.1 f_X12_126 km_0 (fun _ _ => rfl) rfl ?_
      refine R_putI 12 13 13 WM_ok e_X12_ahead_2.2.2.1 f_X12_132 km_0 rfl rfl rfl ?_
      refine R_aload_n e_X12_ahead_2.2.2.2.1 0 rfl ?_
      refine R_aload_n e_X12_ahead_2.2.2.2.2.1 0 rfl ?_
      refine R_getI 12 14 14 e_X12_ahead_2.2.2.2.2.2.1 f_X12_126 km_0 (fun _ _ => rfl) rfl ?_
      refine R_callV (mc := 0) (ms := 0) (mc' := 0) (ms' := 0) (M' := M_X12_byteAt) (d' := 0) (as := [vI ((kup s5 0 13 (s5 0 14)) 0 14)]) (st := []) 12 1 e_X12_ahead_2.2.2.2.2.2.2.1 (kCVof m_X12_byteAt l_X12_129) rfl (by decide) km_0 (by decide) (by decide) rfl rfl (by show (0 : Nat) ≤ 8; decide) ?_
      refine Run.mono h (fun r7 s8 h => ?_)
      refine R_eqs (st2 := [vI r7]) rfl rfl ?_
      refine R_istore_n (ls2 := [(1, vI r7), (0, vA G 0)]) e_X12_ahead_2.2.2.2.2.2.2.2.1 (by decide) rfl ?_
      refine R_aload_n e_X12_ahead_2.2.2.2.2.2.2.2.2.1 1 rfl ?_
      refine R_iload_n e_X12_ahead_2.2.2.2.2.2.2.2.2.2 0 rfl ?_
      refine R_putI 12 15 15 WM_ok e_X12_ahead_3.1 f_X12_135 km_0 rfl rfl rfl ?_
      refine R_iload_n e_X12_ahead_3.2.1 0 rfl ?_
      refine R_iconst e_X12_ahead_3.2.2.1 ?_
      obtain ⟨q9, h⟩ := h
      refine R_icmp_ne 74 e_X12_ahead_3.2.2.2.1 (by decide) q9 (by decide) (fun q => ?_) (fun q => ?_)
      · replace h := h.1 q
        refine R_iload_n e_X12_ahead_3.2.2.2.2.2.2.2.2.1 0 rfl ?_
        refine R_callS (mc := 0) (ms := 0) (mc' := 0) (ms' := 0) (M' := M_X12_isSmall) (d' := 0) (as := [vI r7]) (st := []) 1 e_X12_ahead_3.2.2.2.2.2.2.2.2.2 (kCSof m_X12_isSmall l_X12_141) (by decide) (by decide) rfl rfl (by show (0 : Nat) ≤ 8; decide) ?_
        refine Run.mono h (fun r10 s11 h => ?_)
        refine R_eqs (st2 := [vI r10]) rfl rfl ?_
        obtain ⟨q12, h⟩ := h
        refine R_if_eq 116 e_X12_ahead_4.1 (by decide) q12  (fun q => ?_) (fun q => ?_)
        · replace h := h.1 q
          refine R_iload_n e_X12_ahead_5.2.2.2.2.2.2.2.2.1 0 rfl ?_
          refine R_callS (mc := 0) (ms := 0) (mc' := 0) (ms' := 0) (M' := M_X12_isDigit) (d' := 0) (as := [vI r7]) (st := []) 1 e_X12_ahead_5.2.2.2.2.2.2.2.2.2 (kCSof m_X12_isDigit l_X12_144) (by decide) (by decide) rfl rfl (by show (0 : Nat) ≤ 8; decide) ?_
          refine Run.mono h (fun r13 s14 h => ?_)
          refine R_eqs (st2 := [vI r13]) rfl rfl ?_
          obtain ⟨q15, h⟩ := h
          refine R_if_eq 208 e_X12_ahead_6.1 (by decide) q15  (fun q => ?_) (fun q => ?_)
          · replace h := h.1 q
            refine R_aload_n e_X12_ahead_10.2.2.2.2.2.1 1 rfl ?_
            refine R_dup e_X12_ahead_10.2.2.2.2.2.2.1 rfl ?_
            refine R_getI 12 14 14 e_X12_ahead_10.2.2.2.2.2.2.2.1 f_X12_126 km_0 (fun _ _ => rfl) rfl ?_
            refine R_iconst e_X12_ahead_10.2.2.2.2.2.2.2.2.1 ?_
            refine R_iadd e_X12_ahead_10.2.2.2.2.2.2.2.2.2 ?_
            refine R_putI 12 14 14 WM_ok e_X12_ahead_11.1 f_X12_126 km_0 rfl rfl rfl ?_
            refine R_aload_n e_X12_ahead_11.2.1 1 rfl ?_
            refine R_iload_n e_X12_ahead_11.2.2.1 0 rfl ?_
            refine R_bipush e_X12_ahead_11.2.2.2.1 (by decide) ?_
            refine R_icmp_eq 243 e_X12_ahead_11.2.2.2.2.1 (by decide) q9 (by decide) (fun q => ?_) (fun q => ?_)
            · replace h := h.1 q
              refine R_iconst e_X12_ahead_12.2.2.2.2.1 ?_
              refine R_goto 248 e_X12_ahead_12.2.2.2.2.2.1 (by decide) ?_
              refine R_putI 12 12 12 WM_ok e_X12_ahead_12.2.2.2.2.2.2.2.1 f_X12_138 km_0 rfl rfl rfl ?_
              exact R_return e_X12_ahead_12.2.2.2.2.2.2.2.2 rfl h
            · replace h := h.2 q
              refine R_iload_n e_X12_ahead_11.2.2.2.2.2.1 0 rfl ?_
              refine R_bipush e_X12_ahead_11.2.2.2.2.2.2.1 (by decide) ?_
              refine R_icmp_eq 243 e_X12_ahead_11.2.2.2.2.2.2.2.1 (by decide) q9 (by decide) (fun q => ?_) (fun q => ?_)
              · replace h := h.1 q
                refine R_iconst e_X12_ahead_12.2.2.2.2.1 ?_
                refine R_goto 248 e_X12_ahead_12.2.2.2.2.2.1 (by decide) ?_
                refine R_putI 12 12 12 WM_ok e_X12_ahead_12.2.2.2.2.2.2.2.1 f_X12_138 km_0 rfl rfl rfl ?_
                exact R_return e_X12_ahead_12.2.2.2.2.2.2.2.2 rfl h
              · replace h := h.2 q
                refine R_iload_n e_X12_ahead_11.2.2.2.2.2.2.2.2.1 0 rfl ?_
                refine R_bipush e_X12_ahead_11.2.2.2.2.2.2.2.2.2 (by decide) ?_
                refine R_icmp_eq 243 e_X12_ahead_12.1 (by decide) q9 (by decide) (fun q => ?_) (fun q => ?_)
                · replace h := h.1 q
                  refine R_iconst e_X12_ahead_12.2.2.2.2.1 ?_
                  refine R_goto 248 e_X12_ahead_12.2.2.2.2.2.1 (by decide) ?_
                  refine R_putI 12 12 12 WM_ok e_X12_ahead_12.2.2.2.2.2.2.2.1 f_X12_138 km_0 rfl rfl rfl ?_
                  exact R_return e_X12_ahead_12.2.2.2.2.2.2.2.2 rfl h
                · replace h := h.2 q
                  refine R_iload_n e_X12_ahead_12.2.1 0 rfl ?_
                  refine R_bipush e_X12_ahead_12.2.2.1 (by decide) ?_
                  refine R_icmp_ne 247 e_X12_ahead_12.2.2.2.1 (by decide) q9 (by decide) (fun q => ?_) (fun q => ?_)
                  · replace h := h.1 q
                    refine R_iconst e_X12_ahead_12.2.2.2.2.2.2.1 ?_
                    refine R_putI 12 12 12 WM_ok e_X12_ahead_12.2.2.2.2.2.2.2.1 f_X12_138 km_0 rfl rfl rfl ?_
                    exact R_return e_X12_ahead_12.2.2.2.2.2.2.2.2 rfl h
                  · replace h := h.2 q
                    refine R_iconst e_X12_ahead_12.2.2.2.2.1 ?_
                    refine R_goto 248 e_X12_ahead_12.2.2.2.2.2.1 (by decide) ?_
                    refine R_putI 12 12 12 WM_ok e_X12_ahead_12.2.2.2.2.2.2.2.1 f_X12_138 km_0 rfl rfl rfl ?_
                    exact R_return e_X12_ahead_12.2.2.2.2.2.2.2.2 rfl h
          · replace h := h.2 q
            refine R_aload_n e_X12_ahead_6.2.1 1 rfl ?_
            refine R_iconst e_X12_ahead_6.2.2.1 ?_
            refine R_putI 12 15 15 WM_ok e_X12_ahead_6.2.2.2.1 f_X12_135 km_0 rfl rfl rfl ?_
            refine R_ls (ls2 := [(0, vA G 0)]) [1] rfl ?_
            exact h
        · replace h := h.2 q
          refine R_ls (ls2 := [(0, vA G 0)]) [1] rfl ?_
          exact h
      · replace h := h.2 q
        refine R_aload_n e_X12_ahead_3.2.2.2.2.1 1 rfl ?_
        refine R_iconst e_X12_ahead_3.2.2.2.2.2.1 ?_
        refine R_putI 12 12 12 WM_ok e_X12_ahead_3.2.2.2.2.2.2.1 f_X12_138 km_0 rfl rfl rfl ?_
        refine R_goto 251 e_X12_ahead_3.2.2.2.2.2.2.2.1 (by decide) ?_
        exact R_return e_X12_ahead_12.2.2.2.2.2.2.2.2 rfl h
    · replace h := h.2 q
      refine R_aload_n e_X12_ahead_1.2.2.1 0 rfl ?_
      refine R_dup e_X12_ahead_1.2.2.2.1 rfl ?_
      refine R_getI 12 14 14 e_X12_ahead_1.2.2.2.2.1 f_X12_126 km_0 (fun _ _ => rfl) rfl ?_
      refine R_iconst e_X12_ahead_1.2.2.2.2.2.1 ?_
      refine R_iadd e_X12_ahead_1.2.2.2.2.2.2.1 ?_
      refine R_putI 12 14 14 WM_ok e_X12_ahead_1.2.2.2.2.2.2.2.1 f_X12_126 km_0 rfl rfl rfl ?_
      refine R_goto 0 e_X12_ahead_1.2.2.2.2.2.2.2.2.1 (by decide) ?_
      refine R_ls (ls2 := [(0, vA G 0)]) [0] rfl ?_
      exact h
theorem S_X12_ahead_0 {G : Kg} {σ : Kmem} {Q : Int → Kmem → Prop}  (h : Run G WM M_X12_byteAt 0 0 0 [vA G 0, vI (σ 0 14)] σ (fun r16 s17 => (rI r16) ∧ ((r16 = 32 → E_X12_ahead_0 G (kup s17 0 14 ((s17 0 14) + 1)) Q) ∧ (r16 ≠ 32 → Run G WM M_X12_byteAt 0 0 0 [vA G 0, vI (s17 0 14)] s17 (fun r19 s20 => (rI r19) ∧ ((r19 ≠ 10 → Run G WM M_X12_byteAt 0 0 0 [vA G 0, vI ((kup s20 0 13 (s20 0 14)) 0 14)] (kup s20 0 13 (s20 0 14)) (fun r22 s23 => (rI r22) ∧ ((r22 ≠ -1 → Run G WM M_X12_isSmall 0 0 0 [vI r22] (kup s23 0 15 r22) (fun r25 s26 => (rI r25) ∧ ((r25 = 0 → Run G WM M_X12_isDigit 0 0 0 [vI r22] s26 (fun r28 s29 => (rI r28) ∧ ((r28 = 0 → ((r22 = 59 → Q 0 (kup (kup s29 0 14 ((s29 0 14) + 1)) 0 12 4)) ∧ (r22 ≠ 59 → ((r22 = 60 → Q 0 (kup (kup s29 0 14 ((s29 0 14) + 1)) 0 12 4)) ∧ (r22 ≠ 60 → ((r22 = 62 → Q 0 (kup (kup s29 0 14 ((s29 0 14) + 1)) 0 12 4)) ∧ (r22 ≠ 62 → ((r22 ≠ 61 → Q 0 (kup (kup s29 0 14 ((s29 0 14) + 1)) 0 12 1)) ∧ (r22 = 61 → Q 0 (kup (kup s29 0 14 ((s29 0 14) + 1)) 0 12 4)))))))))) ∧ (r28 ≠ 0 → E_X12_ahead_128 G (kup s29 0 15 0) Q)))) ∧ (r25 ≠ 0 → E_X12_ahead_81 G s26 Q)))) ∧ (r22 = -1 → Q 0 (kup (kup s23 0 15 r22) 0 12 0))))) ∧ (r19 = 10 → E_X12_ahead_0 G (kup s20 0 14 ((s20 0 14) + 1)) Q))))))) : E_X12_ahead_0 G σ Q := by
  refine R_aload_n e_X12_ahead_0.1 0 rfl ?_
  refine R_aload_n e_X12_ahead_0.2.1 0 rfl ?_
  refine R_getI 12 14 14 e_X12_ahead_0.2.2.1 f_X12_126 km_0 (fun _ _ => rfl) rfl ?_
  refine R_callV (mc := 0) (ms := 0) (mc' := 0) (ms' := 0) (M' := M_X12_byteAt) (d' := 0) (as := [vI (σ 0 14)]) (st := []) 12 1 e_X12_ahead_0.2.2.2.1 (kCVof m_X12_byteAt l_X12_129) rfl (by decide) km_0 (by decide) (by decide) rfl rfl (by show (0 : Nat) ≤ 8; decide) ?_
  refine Run.mono h (fun r16 s17 h => ?_)
  refine R_eqs (st2 := [vI r16]) rfl rfl ?_
  refine R_bipush e_X12_ahead_0.2.2.2.2.1 (by decide) ?_
  obtain ⟨q18, h⟩ := h
  refine R_icmp_eq 26 e_X12_ahead_0.2.2.2.2.2.1 (by decide) q18 (by decide) (fun q => ?_) (fun q => ?_)
  · replace h := h.1 q
    refine R_aload_n e_X12_ahead_1.2.2.1 0 rfl ?_
    refine R_dup e_X12_ahead_1.2.2.2.1 rfl ?_
    refine R_getI 12 14 14 e_X12_ahead_1.2.2.2.2.1 f_X12_126 km_0 (fun _ _ => rfl) rfl ?_
    refine R_iconst e_X12_ahead_1.2.2.2.2.2.1 ?_
    refine R_iadd e_X12_ahead_1.2.2.2.2.2.2.1 ?_
    refine R_putI 12 14 14 WM_ok e_X12_ahead_1.2.2.2.2.2.2.2.1 f_X12_126 km_0 rfl rfl rfl ?_
    refine R_goto 0 e_X12_ahead_1.2.2.2.2.2.2.2.2.1 (by decide) ?_
    refine R_ls (ls2 := [(0, vA G 0)]) [0] rfl ?_
    exact h
  · replace h := h.2 q
    refine R_aload_n e_X12_ahead_0.2.2.2.2.2.2.1 0 rfl ?_
    refine R_aload_n e_X12_ahead_0.2.2.2.2.2.2.2.1 0 rfl ?_
    refine R_getI 12 14 14 e_X12_ahead_0.2.2.2.2.2.2.2.2.1 f_X12_126 km_0 (fun _ _ => rfl) rfl ?_
    refine R_callV (mc := 0) (ms := 0) (mc' := 0) (ms' := 0) (M' := M_X12_byteAt) (d' := 0) (as := [vI (s17 0 14)]) (st := []) 12 1 e_X12_ahead_0.2.2.2.2.2.2.2.2.2 (kCVof m_X12_byteAt l_X12_129) rfl (by decide) km_0 (by decide) (by decide) rfl rfl (by show (0 : Nat) ≤ 8; decide) ?_
    refine Run.mono h (fun r19 s20 h => ?_)
    refine R_eqs (st2 := [vI r19]) rfl rfl ?_
    refine R_bipush e_X12_ahead_1.1 (by decide) ?_
    obtain ⟨q21, h⟩ := h
    refine R_icmp_ne 39 e_X12_ahead_1.2.1 (by decide) q21 (by decide) (fun q => ?_) (fun q => ?_)
    · replace h := h.1 q
      refine R_aload_n e_X12_ahead_1.2.2.2.2.2.2.2.2.2 0 rfl ?_
      refine R_aload_n e_X12_ahead_2.1 0 rfl ?_
      refine R_getI 12 14 14 e_X12_ahead_2.2.1 f_X12_126 km_0 (fun _ _ => rfl) rfl ?_
      refine R_putI 12 13 13 WM_ok e_X12_ahead_2.2.2.1 f_X12_132 km_0 rfl rfl rfl ?_
      refine R_aload_n e_X12_ahead_2.2.2.2.1 0 rfl ?_
      refine R_aload_n e_X12_ahead_2.2.2.2.2.1 0 rfl ?_
      refine R_getI 12 14 14 e_X12_ahead_2.2.2.2.2.2.1 f_X12_126 km_0 (fun _ _ => rfl) rfl ?_
      refine R_callV (mc := 0) (ms := 0) (mc' := 0) (ms' := 0) (M' := M_X12_byteAt) (d' := 0) (as := [vI ((kup s20 0 13 (s20 0 14)) 0 14)]) (st := []) 12 1 e_X12_ahead_2.2.2.2.2.2.2.1 (kCVof m_X12_byteAt l_X12_129) rfl (by decide) km_0 (by decide) (by decide) rfl rfl (by show (0 : Nat) ≤ 8; decide) ?_
      refine Run.mono h (fun r22 s23 h => ?_)
      refine R_eqs (st2 := [vI r22]) rfl rfl ?_
      refine R_istore_n (ls2 := [(1, vI r22), (0, vA G 0)]) e_X12_ahead_2.2.2.2.2.2.2.2.1 (by decide) rfl ?_
      refine R_aload_n e_X12_ahead_2.2.2.2.2.2.2.2.2.1 1 rfl ?_
      refine R_iload_n e_X12_ahead_2.2.2.2.2.2.2.2.2.2 0 rfl ?_
      refine R_putI 12 15 15 WM_ok e_X12_ahead_3.1 f_X12_135 km_0 rfl rfl rfl ?_
      refine R_iload_n e_X12_ahead_3.2.1 0 rfl ?_
      refine R_iconst e_X12_ahead_3.2.2.1 ?_
      obtain ⟨q24, h⟩ := h
      refine R_icmp_ne 74 e_X12_ahead_3.2.2.2.1 (by decide) q24 (by decide) (fun q => ?_) (fun q => ?_)
      · replace h := h.1 q
        refine R_iload_n e_X12_ahead_3.2.2.2.2.2.2.2.2.1 0 rfl ?_
        refine R_callS (mc := 0) (ms := 0) (mc' := 0) (ms' := 0) (M' := M_X12_isSmall) (d' := 0) (as := [vI r22]) (st := []) 1 e_X12_ahead_3.2.2.2.2.2.2.2.2.2 (kCSof m_X12_isSmall l_X12_141) (by decide) (by decide) rfl rfl (by show (0 : Nat) ≤ 8; decide) ?_
        refine Run.mono h (fun r25 s26 h => ?_)
        refine R_eqs (st2 := [vI r25]) rfl rfl ?_
        obtain ⟨q27, h⟩ := h
        refine R_if_eq 116 e_X12_ahead_4.1 (by decide) q27  (fun q => ?_) (fun q => ?_)
        · replace h := h.1 q
          refine R_iload_n e_X12_ahead_5.2.2.2.2.2.2.2.2.1 0 rfl ?_
          refine R_callS (mc := 0) (ms := 0) (mc' := 0) (ms' := 0) (M' := M_X12_isDigit) (d' := 0) (as := [vI r22]) (st := []) 1 e_X12_ahead_5.2.2.2.2.2.2.2.2.2 (kCSof m_X12_isDigit l_X12_144) (by decide) (by decide) rfl rfl (by show (0 : Nat) ≤ 8; decide) ?_
          refine Run.mono h (fun r28 s29 h => ?_)
          refine R_eqs (st2 := [vI r28]) rfl rfl ?_
          obtain ⟨q30, h⟩ := h
          refine R_if_eq 208 e_X12_ahead_6.1 (by decide) q30  (fun q => ?_) (fun q => ?_)
          · replace h := h.1 q
            refine R_aload_n e_X12_ahead_10.2.2.2.2.2.1 1 rfl ?_
            refine R_dup e_X12_ahead_10.2.2.2.2.2.2.1 rfl ?_
            refine R_getI 12 14 14 e_X12_ahead_10.2.2.2.2.2.2.2.1 f_X12_126 km_0 (fun _ _ => rfl) rfl ?_
            refine R_iconst e_X12_ahead_10.2.2.2.2.2.2.2.2.1 ?_
            refine R_iadd e_X12_ahead_10.2.2.2.2.2.2.2.2.2 ?_
            refine R_putI 12 14 14 WM_ok e_X12_ahead_11.1 f_X12_126 km_0 rfl rfl rfl ?_
            refine R_aload_n e_X12_ahead_11.2.1 1 rfl ?_
            refine R_iload_n e_X12_ahead_11.2.2.1 0 rfl ?_
            refine R_bipush e_X12_ahead_11.2.2.2.1 (by decide) ?_
            refine R_icmp_eq 243 e_X12_ahead_11.2.2.2.2.1 (by decide) q24 (by decide) (fun q => ?_) (fun q => ?_)
            · replace h := h.1 q
              refine R_iconst e_X12_ahead_12.2.2.2.2.1 ?_
              refine R_goto 248 e_X12_ahead_12.2.2.2.2.2.1 (by decide) ?_
              refine R_putI 12 12 12 WM_ok e_X12_ahead_12.2.2.2.2.2.2.2.1 f_X12_138 km_0 rfl rfl rfl ?_
              exact R_return e_X12_ahead_12.2.2.2.2.2.2.2.2 rfl h
            · replace h := h.2 q
              refine R_iload_n e_X12_ahead_11.2.2.2.2.2.1 0 rfl ?_
              refine R_bipush e_X12_ahead_11.2.2.2.2.2.2.1 (by decide) ?_
              refine R_icmp_eq 243 e_X12_ahead_11.2.2.2.2.2.2.2.1 (by decide) q24 (by decide) (fun q => ?_) (fun q => ?_)
              · replace h := h.1 q
                refine R_iconst e_X12_ahead_12.2.2.2.2.1 ?_
                refine R_goto 248 e_X12_ahead_12.2.2.2.2.2.1 (by decide) ?_
                refine R_putI 12 12 12 WM_ok e_X12_ahead_12.2.2.2.2.2.2.2.1 f_X12_138 km_0 rfl rfl rfl ?_
                exact R_return e_X12_ahead_12.2.2.2.2.2.2.2.2 rfl h
              · replace h := h.2 q
                refine R_iload_n e_X12_ahead_11.2.2.2.2.2.2.2.2.1 0 rfl ?_
                refine R_bipush e_X12_ahead_11.2.2.2.2.2.2.2.2.2 (by decide) ?_
                refine R_icmp_eq 243 e_X12_ahead_12.1 (by decide) q24 (by decide) (fun q => ?_) (fun q => ?_)
                · replace h := h.1 q
                  refine R_iconst e_X12_ahead_12.2.2.2.2.1 ?_
                  refine R_goto 248 e_X12_ahead_12.2.2.2.2.2.1 (by decide) ?_
                  refine R_putI 12 12 12 WM_ok e_X12_ahead_12.2.2.2.2.2.2.2.1 f_X12_138 km_0 rfl rfl rfl ?_
                  exact R_return e_X12_ahead_12.2.2.2.2.2.2.2.2 rfl h
                · replace h := h.2 q
                  refine R_iload_n e_X12_ahead_12.2.1 0 rfl ?_
                  refine R_bipush e_X12_ahead_12.2.2.1 (by decide) ?_
                  refine R_icmp_ne 247 e_X12_ahead_12.2.2.2.1 (by decide) q24 (by decide) (fun q => ?_) (fun q => ?_)
                  · replace h := h.1 q
                    refine R_iconst e_X12_ahead_12.2.2.2.2.2.2.1 ?_
                    refine R_putI 12 12 12 WM_ok e_X12_ahead_12.2.2.2.2.2.2.2.1 f_X12_138 km_0 rfl rfl rfl ?_
                    exact R_return e_X12_ahead_12.2.2.2.2.2.2.2.2 rfl h
                  · replace h := h.2 q
                    refine R_iconst e_X12_ahead_12.2.2.2.2.1 ?_
                    refine R_goto 248 e_X12_ahead_12.2.2.2.2.2.1 (by decide) ?_
                    refine R_putI 12 12 12 WM_ok e_X12_ahead_12.2.2.2.2.2.2.2.1 f_X12_138 km_0 rfl rfl rfl ?_
                    exact R_return e_X12_ahead_12.2.2.2.2.2.2.2.2 rfl h
          · replace h := h.2 q
            refine R_aload_n e_X12_ahead_6.2.1 1 rfl ?_
            refine R_iconst e_X12_ahead_6.2.2.1 ?_
            refine R_putI 12 15 15 WM_ok e_X12_ahead_6.2.2.2.1 f_X12_135 km_0 rfl rfl rfl ?_
            refine R_ls (ls2 := [(0, vA G 0)]) [1] rfl ?_
            exact h
        · replace h := h.2 q
          refine R_ls (ls2 := [(0, vA G 0)]) [1] rfl ?_
          exact h
      · replace h := h.2 q
        refine R_aload_n e_X12_ahead_3.2.2.2.2.1 1 rfl ?_
        refine R_iconst e_X12_ahead_3.2.2.2.2.2.1 ?_
        refine R_putI 12 12 12 WM_ok e_X12_ahead_3.2.2.2.2.2.2.1 f_X12_138 km_0 rfl rfl rfl ?_
        refine R_goto 251 e_X12_ahead_3.2.2.2.2.2.2.2.1 (by decide) ?_
        exact R_return e_X12_ahead_12.2.2.2.2.2.2.2.2 rfl h
    · replace h := h.2 q
      refine R_aload_n e_X12_ahead_1.2.2.1 0 rfl ?_
      refine R_dup e_X12_ahead_1.2.2.2.1 rfl ?_
      refine R_getI 12 14 14 e_X12_ahead_1.2.2.2.2.1 f_X12_126 km_0 (fun _ _ => rfl) rfl ?_
      refine R_iconst e_X12_ahead_1.2.2.2.2.2.1 ?_
      refine R_iadd e_X12_ahead_1.2.2.2.2.2.2.1 ?_
      refine R_putI 12 14 14 WM_ok e_X12_ahead_1.2.2.2.2.2.2.2.1 f_X12_126 km_0 rfl rfl rfl ?_
      refine R_goto 0 e_X12_ahead_1.2.2.2.2.2.2.2.2.1 (by decide) ?_
      refine R_ls (ls2 := [(0, vA G 0)]) [0] rfl ?_
      exact h
theorem S_X12_ahead_128 {G : Kg} {σ : Kmem} {Q : Int → Kmem → Prop}  (h : Run G WM M_X12_byteAt 0 0 0 [vA G 0, vI (σ 0 14)] σ (fun r31 s32 => Run G WM M_X12_isDigit 0 0 0 [vI r31] s32 (fun r33 s34 => (rI r33) ∧ ((r33 = 0 → (rI ((s34 0 14) - (s34 0 13))) ∧ (((s34 0 14) - (s34 0 13) ≤ 4 → Q 0 (kup s34 0 12 3)) ∧ (4 < (s34 0 14) - (s34 0 13) → Q 0 (kup s34 0 12 1)))) ∧ (r33 ≠ 0 → Run G WM M_X12_byteAt 0 0 0 [vA G 0, vI (s34 0 14)] s34 (fun r37 s38 => Run G WM M_J9_min_7cf53 0 0 0 [vI 100000, vI (((10 * (s34 0 15)) + r37) - 48)] s38 (fun r39 s40 => E_X12_ahead_128 G (kup (kup s40 0 15 r39) 0 14 (((kup s40 0 15 r39) 0 14) + 1)) Q))))))) : E_X12_ahead_128 G σ Q := by
  refine R_aload_n e_X12_ahead_6.2.2.2.2.1 0 rfl ?_
  refine R_aload_n e_X12_ahead_6.2.2.2.2.2.1 0 rfl ?_
  refine R_getI 12 14 14 e_X12_ahead_6.2.2.2.2.2.2.1 f_X12_126 km_0 (fun _ _ => rfl) rfl ?_
  refine R_callV (mc := 0) (ms := 0) (mc' := 0) (ms' := 0) (M' := M_X12_byteAt) (d' := 0) (as := [vI (σ 0 14)]) (st := []) 12 1 e_X12_ahead_6.2.2.2.2.2.2.2.1 (kCVof m_X12_byteAt l_X12_129) rfl (by decide) km_0 (by decide) (by decide) rfl rfl (by show (0 : Nat) ≤ 8; decide) ?_
  refine Run.mono h (fun r31 s32 h => ?_)
  refine R_eqs (st2 := [vI r31]) rfl rfl ?_
  refine R_callS (mc := 0) (ms := 0) (mc' := 0) (ms' := 0) (M' := M_X12_isDigit) (d' := 0) (as := [vI r31]) (st := []) 1 e_X12_ahead_6.2.2.2.2.2.2.2.2.1 (kCSof m_X12_isDigit l_X12_144) (by decide) (by decide) rfl rfl (by show (0 : Nat) ≤ 8; decide) ?_
  refine Run.mono h (fun r33 s34 h => ?_)
  refine R_eqs (st2 := [vI r33]) rfl rfl ?_
  obtain ⟨q35, h⟩ := h
  refine R_if_eq 183 e_X12_ahead_6.2.2.2.2.2.2.2.2.2 (by decide) q35  (fun q => ?_) (fun q => ?_)
  · replace h := h.1 q
    refine R_aload_n e_X12_ahead_9.2.2.1 0 rfl ?_
    refine R_aload_n e_X12_ahead_9.2.2.2.1 0 rfl ?_
    refine R_getI 12 14 14 e_X12_ahead_9.2.2.2.2.1 f_X12_126 km_0 (fun _ _ => rfl) rfl ?_
    refine R_aload_n e_X12_ahead_9.2.2.2.2.2.1 0 rfl ?_
    refine R_getI 12 13 13 e_X12_ahead_9.2.2.2.2.2.2.1 f_X12_132 km_0 (fun _ _ => rfl) rfl ?_
    refine R_isub e_X12_ahead_9.2.2.2.2.2.2.2.1 ?_
    refine R_iconst e_X12_ahead_9.2.2.2.2.2.2.2.2.1 ?_
    obtain ⟨q36, h⟩ := h
    refine R_icmp_le 201 e_X12_ahead_9.2.2.2.2.2.2.2.2.2 (by decide) q36 (by decide) (fun q => ?_) (fun q => ?_)
    · replace h := h.1 q
      refine R_iconst e_X12_ahead_10.2.2.1 ?_
      refine R_putI 12 12 12 WM_ok e_X12_ahead_10.2.2.2.1 f_X12_138 km_0 rfl rfl rfl ?_
      refine R_goto 251 e_X12_ahead_10.2.2.2.2.1 (by decide) ?_
      exact R_return e_X12_ahead_12.2.2.2.2.2.2.2.2 rfl h
    · replace h := h.2 q
      refine R_iconst e_X12_ahead_10.1 ?_
      refine R_goto 202 e_X12_ahead_10.2.1 (by decide) ?_
      refine R_putI 12 12 12 WM_ok e_X12_ahead_10.2.2.2.1 f_X12_138 km_0 rfl rfl rfl ?_
      refine R_goto 251 e_X12_ahead_10.2.2.2.2.1 (by decide) ?_
      exact R_return e_X12_ahead_12.2.2.2.2.2.2.2.2 rfl h
  · replace h := h.2 q
    refine R_aload_n e_X12_ahead_7.1 0 rfl ?_
    refine R_ldc (100000) k_X12_147 e_X12_ahead_7.2.1 ?_
    refine R_bipush e_X12_ahead_7.2.2.1 (by decide) ?_
    refine R_aload_n e_X12_ahead_7.2.2.2.1 0 rfl ?_
    refine R_getI 12 15 15 e_X12_ahead_7.2.2.2.2.1 f_X12_135 km_0 (fun _ _ => rfl) rfl ?_
    refine R_imul e_X12_ahead_7.2.2.2.2.2.1 ?_
    refine R_aload_n e_X12_ahead_7.2.2.2.2.2.2.1 0 rfl ?_
    refine R_aload_n e_X12_ahead_7.2.2.2.2.2.2.2.1 0 rfl ?_
    refine R_getI 12 14 14 e_X12_ahead_7.2.2.2.2.2.2.2.2.1 f_X12_126 km_0 (fun _ _ => rfl) rfl ?_
    refine R_callV (mc := 0) (ms := 0) (mc' := 0) (ms' := 0) (M' := M_X12_byteAt) (d' := 0) (as := [vI (s34 0 14)]) (st := [vI (10 * (s34 0 15)), vI 100000, vA G 0]) 12 1 e_X12_ahead_7.2.2.2.2.2.2.2.2.2 (kCVof m_X12_byteAt l_X12_129) rfl (by decide) km_0 (by decide) (by decide) rfl rfl (by show (3 : Nat) ≤ 8; decide) ?_
    refine Run.mono h (fun r37 s38 h => ?_)
    refine R_eqs (st2 := [vI r37, vI (10 * (s34 0 15)), vI 100000, vA G 0]) rfl rfl ?_
    refine R_iadd e_X12_ahead_8.1 ?_
    refine R_bipush e_X12_ahead_8.2.1 (by decide) ?_
    refine R_isub e_X12_ahead_8.2.2.1 ?_
    refine R_callS (mc := 0) (ms := 0) (mc' := 0) (ms' := 0) (M' := M_J9_min_7cf53) (d' := 0) (as := [vI 100000, vI (((10 * (s34 0 15)) + r37) - 48)]) (st := [vA G 0]) 2 e_X12_ahead_8.2.2.2.1 (kCSof m_J9_min_7cf53 l_X12_148) (by decide) (by decide) rfl rfl (by show (1 : Nat) ≤ 8; decide) ?_
    refine Run.mono h (fun r39 s40 h => ?_)
    refine R_eqs (st2 := [vI r39, vA G 0]) rfl rfl ?_
    refine R_putI 12 15 15 WM_ok e_X12_ahead_8.2.2.2.2.1 f_X12_135 km_0 rfl rfl rfl ?_
    refine R_aload_n e_X12_ahead_8.2.2.2.2.2.1 0 rfl ?_
    refine R_dup e_X12_ahead_8.2.2.2.2.2.2.1 rfl ?_
    refine R_getI 12 14 14 e_X12_ahead_8.2.2.2.2.2.2.2.1 f_X12_126 km_0 (fun _ _ => rfl) rfl ?_
    refine R_iconst e_X12_ahead_8.2.2.2.2.2.2.2.2.1 ?_
    refine R_iadd e_X12_ahead_8.2.2.2.2.2.2.2.2.2 ?_
    refine R_putI 12 14 14 WM_ok e_X12_ahead_9.1 f_X12_126 km_0 rfl rfl rfl ?_
    refine R_goto 128 e_X12_ahead_9.2.1 (by decide) ?_
    refine R_ls (ls2 := [(0, vA G 0)]) [0] rfl ?_
    exact h
theorem S_X12_ahead_81 {G : Kg} {σ : Kmem} {Q : Int → Kmem → Prop}  (h : Run G WM M_X12_byteAt 0 0 0 [vA G 0, vI (σ 0 14)] σ (fun r41 s42 => Run G WM M_X12_isSmall 0 0 0 [vI r41] s42 (fun r43 s44 => (rI r43) ∧ ((r43 = 0 → Q 0 (kup s44 0 12 2)) ∧ (r43 ≠ 0 → E_X12_ahead_81 G (kup s44 0 14 ((s44 0 14) + 1)) Q))))) : E_X12_ahead_81 G σ Q := by
  refine R_aload_n e_X12_ahead_4.2.1 0 rfl ?_
  refine R_aload_n e_X12_ahead_4.2.2.1 0 rfl ?_
  refine R_getI 12 14 14 e_X12_ahead_4.2.2.2.1 f_X12_126 km_0 (fun _ _ => rfl) rfl ?_
  refine R_callV (mc := 0) (ms := 0) (mc' := 0) (ms' := 0) (M' := M_X12_byteAt) (d' := 0) (as := [vI (σ 0 14)]) (st := []) 12 1 e_X12_ahead_4.2.2.2.2.1 (kCVof m_X12_byteAt l_X12_129) rfl (by decide) km_0 (by decide) (by decide) rfl rfl (by show (0 : Nat) ≤ 8; decide) ?_
  refine Run.mono h (fun r41 s42 h => ?_)
  refine R_eqs (st2 := [vI r41]) rfl rfl ?_
  refine R_callS (mc := 0) (ms := 0) (mc' := 0) (ms' := 0) (M' := M_X12_isSmall) (d' := 0) (as := [vI r41]) (st := []) 1 e_X12_ahead_4.2.2.2.2.2.1 (kCSof m_X12_isSmall l_X12_141) (by decide) (by decide) rfl rfl (by show (0 : Nat) ≤ 8; decide) ?_
  refine Run.mono h (fun r43 s44 h => ?_)
  refine R_eqs (st2 := [vI r43]) rfl rfl ?_
  obtain ⟨q45, h⟩ := h
  refine R_if_eq 108 e_X12_ahead_4.2.2.2.2.2.2.1 (by decide) q45  (fun q => ?_) (fun q => ?_)
  · replace h := h.1 q
    refine R_aload_n e_X12_ahead_5.2.2.2.2.1 0 rfl ?_
    refine R_iconst e_X12_ahead_5.2.2.2.2.2.1 ?_
    refine R_putI 12 12 12 WM_ok e_X12_ahead_5.2.2.2.2.2.2.1 f_X12_138 km_0 rfl rfl rfl ?_
    refine R_goto 251 e_X12_ahead_5.2.2.2.2.2.2.2.1 (by decide) ?_
    exact R_return e_X12_ahead_12.2.2.2.2.2.2.2.2 rfl h
  · replace h := h.2 q
    refine R_aload_n e_X12_ahead_4.2.2.2.2.2.2.2.1 0 rfl ?_
    refine R_dup e_X12_ahead_4.2.2.2.2.2.2.2.2.1 rfl ?_
    refine R_getI 12 14 14 e_X12_ahead_4.2.2.2.2.2.2.2.2.2 f_X12_126 km_0 (fun _ _ => rfl) rfl ?_
    refine R_iconst e_X12_ahead_5.1 ?_
    refine R_iadd e_X12_ahead_5.2.1 ?_
    refine R_putI 12 14 14 WM_ok e_X12_ahead_5.2.2.1 f_X12_126 km_0 rfl rfl rfl ?_
    refine R_goto 81 e_X12_ahead_5.2.2.2.1 (by decide) ?_
    refine R_ls (ls2 := [(0, vA G 0)]) [0] rfl ?_
    exact h
/-! KiteLandModel.isSign(I)Z -/
theorem e_X12_isSign_0 : decode cX12_isSign 0 = .ok (.aload_n 0, 1) ∧ decode cX12_isSign 1 = .ok (.getfield 138, 3) ∧ decode cX12_isSign 4 = .ok (.iconst 4, 1) ∧ decode cX12_isSign 5 = .ok (.if_icmp .ne 15, 3) ∧ decode cX12_isSign 8 = .ok (.aload_n 0, 1) ∧ decode cX12_isSign 9 = .ok (.getfield 135, 3) ∧ decode cX12_isSign 12 = .ok (.iload_n 1, 1) ∧ decode cX12_isSign 13 = .ok (.if_icmp .ne 7, 3) ∧ decode cX12_isSign 16 = .ok (.iconst 1, 1) ∧ decode cX12_isSign 17 = .ok (.goto 4, 3) := by decide +kernel
theorem e_X12_isSign_1 : decode cX12_isSign 20 = .ok (.iconst 0, 1) ∧ decode cX12_isSign 21 = .ok (.ireturn, 1) := by decide +kernel
theorem S_X12_isSign {G : Kg} {σ : Kmem} {Q : Int → Kmem → Prop} {l1 : Int}  (h : (rI (σ 0 12)) ∧ ((σ 0 12 ≠ 4 → Q 0 σ) ∧ (σ 0 12 = 4 → (rI (σ 0 15)) ∧ (rI l1) ∧ ((σ 0 15 ≠ l1 → Q 0 σ) ∧ (σ 0 15 = l1 → Q 1 σ))))) : Run G WM M_X12_isSign 0 0 0 [vA G 0, vI l1] σ Q := by
  refine Run.of (by decide +kernel) (by show (2 : Nat) ≤ 2; decide) ?_
  show Ex G WM M_X12_isSign 0 0 0 0 [(0, vA G 0), (1, vI l1)] [] σ Q
  refine R_aload_n e_X12_isSign_0.1 0 rfl ?_
  refine R_getI 12 12 12 e_X12_isSign_0.2.1 f_X12_138 km_0 (fun _ _ => rfl) rfl ?_
  refine R_iconst e_X12_isSign_0.2.2.1 ?_
  obtain ⟨q1, h⟩ := h
  refine R_icmp_ne 20 e_X12_isSign_0.2.2.2.1 (by decide) q1 (by decide) (fun q => ?_) (fun q => ?_)
  · replace h := h.1 q
    refine R_iconst e_X12_isSign_1.1 ?_
    exact R_zreturn e_X12_isSign_1.2 rfl (Or.inl rfl) h
  · replace h := h.2 q
    refine R_aload_n e_X12_isSign_0.2.2.2.2.1 0 rfl ?_
    refine R_getI 12 15 15 e_X12_isSign_0.2.2.2.2.2.1 f_X12_135 km_0 (fun _ _ => rfl) rfl ?_
    refine R_iload_n e_X12_isSign_0.2.2.2.2.2.2.1 1 rfl ?_
    obtain ⟨q2, h⟩ := h
    obtain ⟨q3, h⟩ := h
    refine R_icmp_ne 20 e_X12_isSign_0.2.2.2.2.2.2.2.1 (by decide) q2 q3 (fun q => ?_) (fun q => ?_)
    · replace h := h.1 q
      refine R_iconst e_X12_isSign_1.1 ?_
      exact R_zreturn e_X12_isSign_1.2 rfl (Or.inl rfl) h
    · replace h := h.2 q
      refine R_iconst e_X12_isSign_0.2.2.2.2.2.2.2.2.1 ?_
      refine R_goto 21 e_X12_isSign_0.2.2.2.2.2.2.2.2.2 (by decide) ?_
      exact R_zreturn e_X12_isSign_1.2 rfl (Or.inr rfl) h
/-! KiteLandModel.inWords(Ljava/lang/String;)I -/
theorem e_X12_inWords_0 : decode cX12_inWords 0 = .ok (.aload_n 0, 1) ∧ decode cX12_inWords 1 = .ok (.getfield 138, 3) ∧ decode cX12_inWords 4 = .ok (.iconst 2, 1) ∧ decode cX12_inWords 5 = .ok (.if_icmp .eq 5, 3) ∧ decode cX12_inWords 8 = .ok (.iconst (-1), 1) ∧ decode cX12_inWords 9 = .ok (.ireturn, 1) ∧ decode cX12_inWords 10 = .ok (.iconst 0, 1) ∧ decode cX12_inWords 11 = .ok (.istore_n 2, 1) ∧ decode cX12_inWords 12 = .ok (.iconst 1, 1) ∧ decode cX12_inWords 13 = .ok (.istore_n 3, 1) := by decide +kernel
theorem e_X12_inWords_1 : decode cX12_inWords 14 = .ok (.iload_n 3, 1) ∧ decode cX12_inWords 15 = .ok (.aload_n 1, 1) ∧ decode cX12_inWords 16 = .ok (.invokevirtual 153, 3) ∧ decode cX12_inWords 19 = .ok (.if_icmp .ge 114, 3) ∧ decode cX12_inWords 22 = .ok (.iload_n 3, 1) ∧ decode cX12_inWords 23 = .ok (.istore 4, 2) ∧ decode cX12_inWords 25 = .ok (.aload_n 1, 1) ∧ decode cX12_inWords 26 = .ok (.iload 4, 2) ∧ decode cX12_inWords 28 = .ok (.invokevirtual 159, 3) ∧ decode cX12_inWords 31 = .ok (.bipush 32, 2) := by decide +kernel
theorem e_X12_inWords_2 : decode cX12_inWords 33 = .ok (.if_icmp .eq 9, 3) ∧ decode cX12_inWords 36 = .ok (.iinc 4 1, 3) ∧ decode cX12_inWords 39 = .ok (.goto (-14), 3) ∧ decode cX12_inWords 42 = .ok (.iload 4, 2) ∧ decode cX12_inWords 44 = .ok (.iload_n 3, 1) ∧ decode cX12_inWords 45 = .ok (.isub, 1) ∧ decode cX12_inWords 46 = .ok (.aload_n 0, 1) ∧ decode cX12_inWords 47 = .ok (.getfield 126, 3) ∧ decode cX12_inWords 50 = .ok (.aload_n 0, 1) ∧ decode cX12_inWords 51 = .ok (.getfield 132, 3) := by decide +kernel
theorem e_X12_inWords_3 : decode cX12_inWords 54 = .ok (.isub, 1) ∧ decode cX12_inWords 55 = .ok (.if_icmp .ne 7, 3) ∧ decode cX12_inWords 58 = .ok (.iconst 1, 1) ∧ decode cX12_inWords 59 = .ok (.goto 4, 3) ∧ decode cX12_inWords 62 = .ok (.iconst 0, 1) ∧ decode cX12_inWords 63 = .ok (.istore 5, 2) ∧ decode cX12_inWords 65 = .ok (.iload_n 3, 1) ∧ decode cX12_inWords 66 = .ok (.istore 6, 2) ∧ decode cX12_inWords 68 = .ok (.iload 6, 2) ∧ decode cX12_inWords 70 = .ok (.iload 4, 2) := by decide +kernel
theorem e_X12_inWords_4 : decode cX12_inWords 72 = .ok (.if_icmp .ge 43, 3) ∧ decode cX12_inWords 75 = .ok (.iload 5, 2) ∧ decode cX12_inWords 77 = .ok (.ifCond .eq 38, 3) ∧ decode cX12_inWords 80 = .ok (.aload_n 1, 1) ∧ decode cX12_inWords 81 = .ok (.iload 6, 2) ∧ decode cX12_inWords 83 = .ok (.invokevirtual 159, 3) ∧ decode cX12_inWords 86 = .ok (.aload_n 0, 1) ∧ decode cX12_inWords 87 = .ok (.aload_n 0, 1) ∧ decode cX12_inWords 88 = .ok (.getfield 132, 3) ∧ decode cX12_inWords 91 = .ok (.iload 6, 2) := by decide +kernel
theorem e_X12_inWords_5 : decode cX12_inWords 93 = .ok (.iadd, 1) ∧ decode cX12_inWords 94 = .ok (.iload_n 3, 1) ∧ decode cX12_inWords 95 = .ok (.isub, 1) ∧ decode cX12_inWords 96 = .ok (.invokevirtual 129, 3) ∧ decode cX12_inWords 99 = .ok (.if_icmp .ne 7, 3) ∧ decode cX12_inWords 102 = .ok (.iconst 1, 1) ∧ decode cX12_inWords 103 = .ok (.goto 4, 3) ∧ decode cX12_inWords 106 = .ok (.iconst 0, 1) ∧ decode cX12_inWords 107 = .ok (.istore 5, 2) ∧ decode cX12_inWords 109 = .ok (.iinc 6 1, 3) := by decide +kernel
theorem e_X12_inWords_6 : decode cX12_inWords 112 = .ok (.goto (-44), 3) ∧ decode cX12_inWords 115 = .ok (.iload 5, 2) ∧ decode cX12_inWords 117 = .ok (.ifCond .eq 5, 3) ∧ decode cX12_inWords 120 = .ok (.iload_n 2, 1) ∧ decode cX12_inWords 121 = .ok (.ireturn, 1) ∧ decode cX12_inWords 122 = .ok (.iinc 2 1, 3) ∧ decode cX12_inWords 125 = .ok (.iload 4, 2) ∧ decode cX12_inWords 127 = .ok (.iconst 1, 1) ∧ decode cX12_inWords 128 = .ok (.iadd, 1) ∧ decode cX12_inWords 129 = .ok (.istore_n 3, 1) := by decide +kernel
theorem e_X12_inWords_7 : decode cX12_inWords 130 = .ok (.goto (-116), 3) ∧ decode cX12_inWords 133 = .ok (.iconst (-1), 1) ∧ decode cX12_inWords 134 = .ok (.ireturn, 1) := by decide +kernel
abbrev E_X12_inWords_14 (G : Kg) (i : Nat) (l2 l3 : Int) (σ : Kmem) (Q : Int → Kmem → Prop) : Prop := Ex G WM M_X12_inWords 4 0 0 14 [(0, vA G 0), (1, vA G (-((10 + i : Nat) : Int))), (2, vI l2), (3, vI l3)] [] σ Q
abbrev E_X12_inWords_25 (G : Kg) (i : Nat) (l2 l3 l4 : Int) (σ : Kmem) (Q : Int → Kmem → Prop) : Prop := Ex G WM M_X12_inWords 4 0 0 25 [(0, vA G 0), (1, vA G (-((10 + i : Nat) : Int))), (2, vI l2), (3, vI l3), (4, vI l4)] [] σ Q
abbrev E_X12_inWords_68 (G : Kg) (i : Nat) (l2 l3 l4 l5 l6 : Int) (σ : Kmem) (Q : Int → Kmem → Prop) : Prop := Ex G WM M_X12_inWords 4 0 0 68 [(0, vA G 0), (1, vA G (-((10 + i : Nat) : Int))), (2, vI l2), (3, vI l3), (4, vI l4), (5, vI l5), (6, vI l6)] [] σ Q
theorem S_X12_inWords {G : Kg} {σ : Kmem} {Q : Int → Kmem → Prop} {i : Nat} {si : String × Nat × String × List Int32} (hi : kStrs[i]? = some si)  (h : (rI (σ 0 12)) ∧ ((σ 0 12 = 2 → E_X12_inWords_14 G i 0 1 σ Q) ∧ (σ 0 12 ≠ 2 → Q (-1) σ))) : Run G WM M_X12_inWords 4 0 0 [vA G 0, vA G (-((10 + i : Nat) : Int))] σ Q := by
  refine Run.of (by decide +kernel) (by show (2 : Nat) ≤ 7; decide) ?_
  show Ex G WM M_X12_inWords 4 0 0 0 [(0, vA G 0), (1, vA G (-((10 + i : Nat) : Int)))] [] σ Q
  refine R_aload_n e_X12_inWords_0.1 0 rfl ?_
  refine R_getI 12 12 12 e_X12_inWords_0.2.1 f_X12_138 km_0 (fun _ _ => rfl) rfl ?_
  refine R_iconst e_X12_inWords_0.2.2.1 ?_
  obtain ⟨q1, h⟩ := h
  refine R_icmp_eq 10 e_X12_inWords_0.2.2.2.1 (by decide) q1 (by decide) (fun q => ?_) (fun q => ?_)
  · replace h := h.1 q
    refine R_iconst e_X12_inWords_0.2.2.2.2.2.2.1 ?_
    refine R_istore_n (ls2 := [(2, vI 0), (0, vA G 0), (1, vA G (-((10 + i : Nat) : Int)))]) e_X12_inWords_0.2.2.2.2.2.2.2.1 (by decide) rfl ?_
    refine R_iconst e_X12_inWords_0.2.2.2.2.2.2.2.2.1 ?_
    refine R_istore_n (ls2 := [(3, vI 1), (2, vI 0), (0, vA G 0), (1, vA G (-((10 + i : Nat) : Int)))]) e_X12_inWords_0.2.2.2.2.2.2.2.2.2 (by decide) rfl ?_
    refine R_ls (ls2 := [(0, vA G 0), (1, vA G (-((10 + i : Nat) : Int))), (2, vI 0), (3, vI 1)]) [2, 3, 1, 0] rfl ?_
    exact h
  · replace h := h.2 q
    refine R_iconst e_X12_inWords_0.2.2.2.2.1 ?_
    exact R_ireturn e_X12_inWords_0.2.2.2.2.2.1 rfl h
theorem S_X12_inWords_14 {G : Kg} {σ : Kmem} {Q : Int → Kmem → Prop} {i : Nat} {si : String × Nat × String × List Int32} (hi : kStrs[i]? = some si) {l2 l3 : Int}  (h : (rI l3) ∧ (rI (kslen i)) ∧ ((kslen i ≤ l3 → Q (-1) σ) ∧ (l3 < kslen i → E_X12_inWords_25 G i l2 l3 l3 σ Q))) : E_X12_inWords_14 G i l2 l3 σ Q := by
  refine R_iload_n e_X12_inWords_1.1 3 rfl ?_
  refine R_aload_n e_X12_inWords_1.2.1 1 rfl ?_
  refine R_slen (i := i) (kStrs_at hi) l_X12_153 e_X12_inWords_1.2.2.1 (by decide) rfl (by show (1 : Nat) ≤ 8; decide) ?_
  obtain ⟨q2, h⟩ := h
  obtain ⟨q3, h⟩ := h
  refine R_icmp_ge 133 e_X12_inWords_1.2.2.2.1 (by decide) q2 q3 (fun q => ?_) (fun q => ?_)
  · replace h := h.1 q
    refine R_iconst e_X12_inWords_7.2.1 ?_
    exact R_ireturn e_X12_inWords_7.2.2 rfl h
  · replace h := h.2 q
    refine R_iload_n e_X12_inWords_1.2.2.2.2.1 3 rfl ?_
    refine R_istore (ls2 := [(4, vI l3), (0, vA G 0), (1, vA G (-((10 + i : Nat) : Int))), (2, vI l2), (3, vI l3)]) e_X12_inWords_1.2.2.2.2.2.1 (by decide) rfl ?_
    refine R_ls (ls2 := [(0, vA G 0), (1, vA G (-((10 + i : Nat) : Int))), (2, vI l2), (3, vI l3), (4, vI l3)]) [1, 2, 3, 4, 0] rfl ?_
    exact h
theorem S_X12_inWords_25 {G : Kg} {σ : Kmem} {Q : Int → Kmem → Prop} {i : Nat} {si : String × Nat × String × List Int32} (hi : kStrs[i]? = some si) {l2 l3 l4 : Int}  (h : (0 ≤ l4 ∧ l4 < kslen i) ∧ (rI (ksat i l4)) ∧ ((ksat i l4 = 32 → (rI (l4 - l3)) ∧ (rI ((σ 0 14) - (σ 0 13))) ∧ ((l4 - l3 ≠ (σ 0 14) - (σ 0 13) → E_X12_inWords_68 G i l2 l3 l4 0 l3 σ Q) ∧ (l4 - l3 = (σ 0 14) - (σ 0 13) → E_X12_inWords_68 G i l2 l3 l4 1 l3 σ Q))) ∧ (ksat i l4 ≠ 32 → E_X12_inWords_25 G i l2 l3 (l4 + 1) σ Q))) : E_X12_inWords_25 G i l2 l3 l4 σ Q := by
  refine R_aload_n e_X12_inWords_1.2.2.2.2.2.2.1 1 rfl ?_
  refine R_iload e_X12_inWords_1.2.2.2.2.2.2.2.1 4 rfl ?_
  obtain ⟨q4, h⟩ := h
  refine R_sat (i := i) (kStrs_at hi) l_X12_159 e_X12_inWords_1.2.2.2.2.2.2.2.2.1 (by decide) q4 rfl (by show (0 : Nat) ≤ 8; decide) ?_
  refine R_bipush e_X12_inWords_1.2.2.2.2.2.2.2.2.2 (by decide) ?_
  obtain ⟨q5, h⟩ := h
  refine R_icmp_eq 42 e_X12_inWords_2.1 (by decide) q5 (by decide) (fun q => ?_) (fun q => ?_)
  · replace h := h.1 q
    refine R_iload e_X12_inWords_2.2.2.2.1 4 rfl ?_
    refine R_iload_n e_X12_inWords_2.2.2.2.2.1 3 rfl ?_
    refine R_isub e_X12_inWords_2.2.2.2.2.2.1 ?_
    refine R_aload_n e_X12_inWords_2.2.2.2.2.2.2.1 0 rfl ?_
    refine R_getI 12 14 14 e_X12_inWords_2.2.2.2.2.2.2.2.1 f_X12_126 km_0 (fun _ _ => rfl) rfl ?_
    refine R_aload_n e_X12_inWords_2.2.2.2.2.2.2.2.2.1 0 rfl ?_
    refine R_getI 12 13 13 e_X12_inWords_2.2.2.2.2.2.2.2.2.2 f_X12_132 km_0 (fun _ _ => rfl) rfl ?_
    refine R_isub e_X12_inWords_3.1 ?_
    obtain ⟨q6, h⟩ := h
    obtain ⟨q7, h⟩ := h
    refine R_icmp_ne 62 e_X12_inWords_3.2.1 (by decide) q6 q7 (fun q => ?_) (fun q => ?_)
    · replace h := h.1 q
      refine R_iconst e_X12_inWords_3.2.2.2.2.1 ?_
      refine R_istore (ls2 := [(5, vI 0), (0, vA G 0), (1, vA G (-((10 + i : Nat) : Int))), (2, vI l2), (3, vI l3), (4, vI l4)]) e_X12_inWords_3.2.2.2.2.2.1 (by decide) rfl ?_
      refine R_iload_n e_X12_inWords_3.2.2.2.2.2.2.1 4 rfl ?_
      refine R_istore (ls2 := [(6, vI l3), (5, vI 0), (0, vA G 0), (1, vA G (-((10 + i : Nat) : Int))), (2, vI l2), (3, vI l3), (4, vI l4)]) e_X12_inWords_3.2.2.2.2.2.2.2.1 (by decide) rfl ?_
      refine R_ls (ls2 := [(0, vA G 0), (1, vA G (-((10 + i : Nat) : Int))), (2, vI l2), (3, vI l3), (4, vI l4), (5, vI 0), (6, vI l3)]) [2, 3, 4, 5, 6, 1, 0] rfl ?_
      exact h
    · replace h := h.2 q
      refine R_iconst e_X12_inWords_3.2.2.1 ?_
      refine R_goto 63 e_X12_inWords_3.2.2.2.1 (by decide) ?_
      refine R_istore (ls2 := [(5, vI 1), (0, vA G 0), (1, vA G (-((10 + i : Nat) : Int))), (2, vI l2), (3, vI l3), (4, vI l4)]) e_X12_inWords_3.2.2.2.2.2.1 (by decide) rfl ?_
      refine R_iload_n e_X12_inWords_3.2.2.2.2.2.2.1 4 rfl ?_
      refine R_istore (ls2 := [(6, vI l3), (5, vI 1), (0, vA G 0), (1, vA G (-((10 + i : Nat) : Int))), (2, vI l2), (3, vI l3), (4, vI l4)]) e_X12_inWords_3.2.2.2.2.2.2.2.1 (by decide) rfl ?_
      refine R_ls (ls2 := [(0, vA G 0), (1, vA G (-((10 + i : Nat) : Int))), (2, vI l2), (3, vI l3), (4, vI l4), (5, vI 1), (6, vI l3)]) [2, 3, 4, 5, 6, 1, 0] rfl ?_
      exact h
  · replace h := h.2 q
    refine R_iinc (ls2 := [(4, vI (l4 + 1)), (0, vA G 0), (1, vA G (-((10 + i : Nat) : Int))), (2, vI l2), (3, vI l3)]) e_X12_inWords_2.2.1 4 rfl (by decide) rfl ?_
    refine R_goto 25 e_X12_inWords_2.2.2.1 (by decide) ?_
    refine R_ls (ls2 := [(0, vA G 0), (1, vA G (-((10 + i : Nat) : Int))), (2, vI l2), (3, vI l3), (4, vI (l4 + 1))]) [1, 2, 3, 4, 0] rfl ?_
    exact h
theorem S_X12_inWords_68 {G : Kg} {σ : Kmem} {Q : Int → Kmem → Prop} {i : Nat} {si : String × Nat × String × List Int32} (hi : kStrs[i]? = some si) {l2 l3 l4 l5 l6 : Int}  (h : (rI l6) ∧ (rI l4) ∧ ((l4 ≤ l6 → (rI l5) ∧ ((l5 = 0 → E_X12_inWords_14 G i (l2 + 1) (l4 + 1) σ Q) ∧ (l5 ≠ 0 → Q l2 σ))) ∧ (l6 < l4 → (rI l5) ∧ ((l5 = 0 → ((l5 = 0 → E_X12_inWords_14 G i (l2 + 1) (l4 + 1) σ Q) ∧ (l5 ≠ 0 → Q l2 σ))) ∧ (l5 ≠ 0 → (0 ≤ l6 ∧ l6 < kslen i) ∧ Run G WM M_X12_byteAt 0 0 0 [vA G 0, vI (((σ 0 13) + l6) - l3)] σ (fun r13 s14 => (rI (ksat i l6)) ∧ (rI r13) ∧ ((ksat i l6 ≠ r13 → E_X12_inWords_68 G i l2 l3 l4 0 (l6 + 1) s14 Q) ∧ (ksat i l6 = r13 → E_X12_inWords_68 G i l2 l3 l4 1 (l6 + 1) s14 Q)))))))) : E_X12_inWords_68 G i l2 l3 l4 l5 l6 σ Q := by
  refine R_iload e_X12_inWords_3.2.2.2.2.2.2.2.2.1 6 rfl ?_
  refine R_iload e_X12_inWords_3.2.2.2.2.2.2.2.2.2 4 rfl ?_
  obtain ⟨q8, h⟩ := h
  obtain ⟨q9, h⟩ := h
  refine R_icmp_ge 115 e_X12_inWords_4.1 (by decide) q8 q9 (fun q => ?_) (fun q => ?_)
  · replace h := h.1 q
    refine R_iload e_X12_inWords_6.2.1 5 rfl ?_
    obtain ⟨q10, h⟩ := h
    refine R_if_eq 122 e_X12_inWords_6.2.2.1 (by decide) q10  (fun q => ?_) (fun q => ?_)
    · replace h := h.1 q
      refine R_iinc (ls2 := [(2, vI (l2 + 1)), (0, vA G 0), (1, vA G (-((10 + i : Nat) : Int))), (3, vI l3), (4, vI l4), (5, vI l5), (6, vI l6)]) e_X12_inWords_6.2.2.2.2.2.1 2 rfl (by decide) rfl ?_
      refine R_iload e_X12_inWords_6.2.2.2.2.2.2.1 4 rfl ?_
      refine R_iconst e_X12_inWords_6.2.2.2.2.2.2.2.1 ?_
      refine R_iadd e_X12_inWords_6.2.2.2.2.2.2.2.2.1 ?_
      refine R_istore_n (ls2 := [(3, vI (l4 + 1)), (2, vI (l2 + 1)), (0, vA G 0), (1, vA G (-((10 + i : Nat) : Int))), (4, vI l4), (5, vI l5), (6, vI l6)]) e_X12_inWords_6.2.2.2.2.2.2.2.2.2 (by decide) rfl ?_
      refine R_goto 14 e_X12_inWords_7.1 (by decide) ?_
      refine R_ls (ls2 := [(0, vA G 0), (1, vA G (-((10 + i : Nat) : Int))), (2, vI (l2 + 1)), (3, vI (l4 + 1))]) [2, 3, 1, 0] rfl ?_
      exact h
    · replace h := h.2 q
      refine R_iload_n e_X12_inWords_6.2.2.2.1 2 rfl ?_
      exact R_ireturn e_X12_inWords_6.2.2.2.2.1 rfl h
  · replace h := h.2 q
    refine R_iload e_X12_inWords_4.2.1 5 rfl ?_
    obtain ⟨q11, h⟩ := h
    refine R_if_eq 115 e_X12_inWords_4.2.2.1 (by decide) q11  (fun q => ?_) (fun q => ?_)
    · replace h := h.1 q
      refine R_iload e_X12_inWords_6.2.1 5 rfl ?_
      refine R_if_eq 122 e_X12_inWords_6.2.2.1 (by decide) q11  (fun q => ?_) (fun q => ?_)
      · replace h := h.1 q
        refine R_iinc (ls2 := [(2, vI (l2 + 1)), (0, vA G 0), (1, vA G (-((10 + i : Nat) : Int))), (3, vI l3), (4, vI l4), (5, vI l5), (6, vI l6)]) e_X12_inWords_6.2.2.2.2.2.1 2 rfl (by decide) rfl ?_
        refine R_iload e_X12_inWords_6.2.2.2.2.2.2.1 4 rfl ?_
        refine R_iconst e_X12_inWords_6.2.2.2.2.2.2.2.1 ?_
        refine R_iadd e_X12_inWords_6.2.2.2.2.2.2.2.2.1 ?_
        refine R_istore_n (ls2 := [(3, vI (l4 + 1)), (2, vI (l2 + 1)), (0, vA G 0), (1, vA G (-((10 + i : Nat) : Int))), (4, vI l4), (5, vI l5), (6, vI l6)]) e_X12_inWords_6.2.2.2.2.2.2.2.2.2 (by decide) rfl ?_
        refine R_goto 14 e_X12_inWords_7.1 (by decide) ?_
        refine R_ls (ls2 := [(0, vA G 0), (1, vA G (-((10 + i : Nat) : Int))), (2, vI (l2 + 1)), (3, vI (l4 + 1))]) [2, 3, 1, 0] rfl ?_
        exact h
      · replace h := h.2 q
        refine R_iload_n e_X12_inWords_6.2.2.2.1 2 rfl ?_
        exact R_ireturn e_X12_inWords_6.2.2.2.2.1 rfl h
    · replace h := h.2 q
      refine R_aload_n e_X12_inWords_4.2.2.2.1 1 rfl ?_
      refine R_iload e_X12_inWords_4.2.2.2.2.1 6 rfl ?_
      obtain ⟨q12, h⟩ := h
      refine R_sat (i := i) (kStrs_at hi) l_X12_159 e_X12_inWords_4.2.2.2.2.2.1 (by decide) q12 rfl (by show (0 : Nat) ≤ 8; decide) ?_
      refine R_aload_n e_X12_inWords_4.2.2.2.2.2.2.1 0 rfl ?_
      refine R_aload_n e_X12_inWords_4.2.2.2.2.2.2.2.1 0 rfl ?_
      refine R_getI 12 13 13 e_X12_inWords_4.2.2.2.2.2.2.2.2.1 f_X12_132 km_0 (fun _ _ => rfl) rfl ?_
      refine R_iload e_X12_inWords_4.2.2.2.2.2.2.2.2.2 6 rfl ?_
      refine R_iadd e_X12_inWords_5.1 ?_
      refine R_iload_n e_X12_inWords_5.2.1 3 rfl ?_
      refine R_isub e_X12_inWords_5.2.2.1 ?_
      refine R_callV (mc := 0) (ms := 0) (mc' := 0) (ms' := 0) (M' := M_X12_byteAt) (d' := 0) (as := [vI (((σ 0 13) + l6) - l3)]) (st := [vI (ksat i l6)]) 12 1 e_X12_inWords_5.2.2.2.1 (kCVof m_X12_byteAt l_X12_129) rfl (by decide) km_0 (by decide) (by decide) rfl rfl (by show (1 : Nat) ≤ 8; decide) ?_
      refine Run.mono h (fun r13 s14 h => ?_)
      refine R_eqs (st2 := [vI r13, vI (ksat i l6)]) rfl rfl ?_
      obtain ⟨q15, h⟩ := h
      obtain ⟨q16, h⟩ := h
      refine R_icmp_ne 106 e_X12_inWords_5.2.2.2.2.1 (by decide) q15 q16 (fun q => ?_) (fun q => ?_)
      · replace h := h.1 q
        refine R_iconst e_X12_inWords_5.2.2.2.2.2.2.2.1 ?_
        refine R_istore (ls2 := [(5, vI 0), (0, vA G 0), (1, vA G (-((10 + i : Nat) : Int))), (2, vI l2), (3, vI l3), (4, vI l4), (6, vI l6)]) e_X12_inWords_5.2.2.2.2.2.2.2.2.1 (by decide) rfl ?_
        refine R_iinc (ls2 := [(6, vI (l6 + 1)), (5, vI 0), (0, vA G 0), (1, vA G (-((10 + i : Nat) : Int))), (2, vI l2), (3, vI l3), (4, vI l4)]) e_X12_inWords_5.2.2.2.2.2.2.2.2.2 6 rfl (by decide) rfl ?_
        refine R_goto 68 e_X12_inWords_6.1 (by decide) ?_
        refine R_ls (ls2 := [(0, vA G 0), (1, vA G (-((10 + i : Nat) : Int))), (2, vI l2), (3, vI l3), (4, vI l4), (5, vI 0), (6, vI (l6 + 1))]) [2, 3, 4, 5, 6, 1, 0] rfl ?_
        exact h
      · replace h := h.2 q
        refine R_iconst e_X12_inWords_5.2.2.2.2.2.1 ?_
        refine R_goto 107 e_X12_inWords_5.2.2.2.2.2.2.1 (by decide) ?_
        refine R_istore (ls2 := [(5, vI 1), (0, vA G 0), (1, vA G (-((10 + i : Nat) : Int))), (2, vI l2), (3, vI l3), (4, vI l4), (6, vI l6)]) e_X12_inWords_5.2.2.2.2.2.2.2.2.1 (by decide) rfl ?_
        refine R_iinc (ls2 := [(6, vI (l6 + 1)), (5, vI 1), (0, vA G 0), (1, vA G (-((10 + i : Nat) : Int))), (2, vI l2), (3, vI l3), (4, vI l4)]) e_X12_inWords_5.2.2.2.2.2.2.2.2.2 6 rfl (by decide) rfl ?_
        refine R_goto 68 e_X12_inWords_6.1 (by decide) ?_
        refine R_ls (ls2 := [(0, vA G 0), (1, vA G (-((10 + i : Nat) : Int))), (2, vI l2), (3, vI l3), (4, vI l4), (5, vI 1), (6, vI (l6 + 1))]) [2, 3, 4, 5, 6, 1, 0] rfl ?_
        exact h
/-! KiteLandModel.fails(I)Z -/
theorem e_X12_fails_0 : decode cX12_fails 0 = .ok (.aload_n 0, 1) ∧ decode cX12_fails 1 = .ok (.getfield 163, 3) ∧ decode cX12_fails 4 = .ok (.ifCond .ne 28, 3) ∧ decode cX12_fails 7 = .ok (.aload_n 0, 1) ∧ decode cX12_fails 8 = .ok (.aload_n 0, 1) ∧ decode cX12_fails 9 = .ok (.getfield 138, 3) ∧ decode cX12_fails 12 = .ok (.iconst 1, 1) ∧ decode cX12_fails 13 = .ok (.if_icmp .ne 7, 3) ∧ decode cX12_fails 16 = .ok (.iconst 1, 1) ∧ decode cX12_fails 17 = .ok (.goto 4, 3) := by decide +kernel
theorem e_X12_fails_1 : decode cX12_fails 20 = .ok (.iload_n 1, 1) ∧ decode cX12_fails 21 = .ok (.putfield 163, 3) ∧ decode cX12_fails 24 = .ok (.aload_n 0, 1) ∧ decode cX12_fails 25 = .ok (.aload_n 0, 1) ∧ decode cX12_fails 26 = .ok (.getfield 132, 3) ∧ decode cX12_fails 29 = .ok (.putfield 41, 3) ∧ decode cX12_fails 32 = .ok (.iconst 0, 1) ∧ decode cX12_fails 33 = .ok (.ireturn, 1) := by decide +kernel
theorem S_X12_fails {G : Kg} {σ : Kmem} {Q : Int → Kmem → Prop} {l1 : Int}  (h : (rI (σ 0 18)) ∧ ((σ 0 18 ≠ 0 → Q 0 σ) ∧ (σ 0 18 = 0 → (rI (σ 0 12)) ∧ ((σ 0 12 ≠ 1 → Q 0 (kup (kup σ 0 18 l1) 0 17 ((kup σ 0 18 l1) 0 13))) ∧ (σ 0 12 = 1 → Q 0 (kup (kup σ 0 18 1) 0 17 ((kup σ 0 18 1) 0 13))))))) : Run G WM M_X12_fails 0 0 0 [vA G 0, vI l1] σ Q := by
  refine Run.of (by decide +kernel) (by show (2 : Nat) ≤ 2; decide) ?_
  show Ex G WM M_X12_fails 0 0 0 0 [(0, vA G 0), (1, vI l1)] [] σ Q
  refine R_aload_n e_X12_fails_0.1 0 rfl ?_
  refine R_getI 12 18 18 e_X12_fails_0.2.1 f_X12_163 km_0 (fun _ _ => rfl) rfl ?_
  obtain ⟨q1, h⟩ := h
  refine R_if_ne 32 e_X12_fails_0.2.2.1 (by decide) q1  (fun q => ?_) (fun q => ?_)
  · replace h := h.1 q
    refine R_iconst e_X12_fails_1.2.2.2.2.2.2.1 ?_
    exact R_zreturn e_X12_fails_1.2.2.2.2.2.2.2 rfl (Or.inl rfl) h
  · replace h := h.2 q
    refine R_aload_n e_X12_fails_0.2.2.2.1 0 rfl ?_
    refine R_aload_n e_X12_fails_0.2.2.2.2.1 0 rfl ?_
    refine R_getI 12 12 12 e_X12_fails_0.2.2.2.2.2.1 f_X12_138 km_0 (fun _ _ => rfl) rfl ?_
    refine R_iconst e_X12_fails_0.2.2.2.2.2.2.1 ?_
    obtain ⟨q2, h⟩ := h
    refine R_icmp_ne 20 e_X12_fails_0.2.2.2.2.2.2.2.1 (by decide) q2 (by decide) (fun q => ?_) (fun q => ?_)
    · replace h := h.1 q
      refine R_iload_n e_X12_fails_1.1 1 rfl ?_
      refine R_putI 12 18 18 WM_ok e_X12_fails_1.2.1 f_X12_163 km_0 rfl rfl rfl ?_
      refine R_aload_n e_X12_fails_1.2.2.1 0 rfl ?_
      refine R_aload_n e_X12_fails_1.2.2.2.1 0 rfl ?_
      refine R_getI 12 13 13 e_X12_fails_1.2.2.2.2.1 f_X12_132 km_0 (fun _ _ => rfl) rfl ?_
      refine R_putI 12 17 17 WM_ok e_X12_fails_1.2.2.2.2.2.1 f_X12_41 km_0 rfl rfl rfl ?_
      refine R_iconst e_X12_fails_1.2.2.2.2.2.2.1 ?_
      exact R_zreturn e_X12_fails_1.2.2.2.2.2.2.2 rfl (Or.inl rfl) h
    · replace h := h.2 q
      refine R_iconst e_X12_fails_0.2.2.2.2.2.2.2.2.1 ?_
      refine R_goto 21 e_X12_fails_0.2.2.2.2.2.2.2.2.2 (by decide) ?_
      refine R_putI 12 18 18 WM_ok e_X12_fails_1.2.1 f_X12_163 km_0 rfl rfl rfl ?_
      refine R_aload_n e_X12_fails_1.2.2.1 0 rfl ?_
      refine R_aload_n e_X12_fails_1.2.2.2.1 0 rfl ?_
      refine R_getI 12 13 13 e_X12_fails_1.2.2.2.2.1 f_X12_132 km_0 (fun _ _ => rfl) rfl ?_
      refine R_putI 12 17 17 WM_ok e_X12_fails_1.2.2.2.2.2.1 f_X12_41 km_0 rfl rfl rfl ?_
      refine R_iconst e_X12_fails_1.2.2.2.2.2.2.1 ?_
      exact R_zreturn e_X12_fails_1.2.2.2.2.2.2.2 rfl (Or.inl rfl) h
/-! KiteLandModel.begins(II)Z -/
theorem e_X12_begins_0 : decode cX12_begins 0 = .ok (.iload_n 1, 1) ∧ decode cX12_begins 1 = .ok (.ifCond .lt 16, 3) ∧ decode cX12_begins 4 = .ok (.iload_n 1, 1) ∧ decode cX12_begins 5 = .ok (.aload_n 0, 1) ∧ decode cX12_begins 6 = .ok (.getfield 117, 3) ∧ decode cX12_begins 9 = .ok (.if_icmp .gt 8, 3) ∧ decode cX12_begins 12 = .ok (.iload_n 1, 1) ∧ decode cX12_begins 13 = .ok (.iload_n 2, 1) ∧ decode cX12_begins 14 = .ok (.if_icmp .le 5, 3) ∧ decode cX12_begins 17 = .ok (.iconst 0, 1) := by decide +kernel
theorem e_X12_begins_1 : decode cX12_begins 18 = .ok (.ireturn, 1) ∧ decode cX12_begins 19 = .ok (.aload_n 0, 1) ∧ decode cX12_begins 20 = .ok (.iload_n 1, 1) ∧ decode cX12_begins 21 = .ok (.putfield 123, 3) ∧ decode cX12_begins 24 = .ok (.iconst 0, 1) ∧ decode cX12_begins 25 = .ok (.istore_n 3, 1) ∧ decode cX12_begins 26 = .ok (.iload_n 3, 1) ∧ decode cX12_begins 27 = .ok (.iload_n 1, 1) ∧ decode cX12_begins 28 = .ok (.if_icmp .ge 21, 3) ∧ decode cX12_begins 31 = .ok (.aload_n 0, 1) := by decide +kernel
theorem e_X12_begins_2 : decode cX12_begins 32 = .ok (.getfield 34, 3) ∧ decode cX12_begins 35 = .ok (.iload_n 3, 1) ∧ decode cX12_begins 36 = .ok (.aload_n 0, 1) ∧ decode cX12_begins 37 = .ok (.getfield 30, 3) ∧ decode cX12_begins 40 = .ok (.iload_n 3, 1) ∧ decode cX12_begins 41 = .ok (.baload, 1) ∧ decode cX12_begins 42 = .ok (.bastore, 1) ∧ decode cX12_begins 43 = .ok (.iinc 3 1, 3) ∧ decode cX12_begins 46 = .ok (.goto (-20), 3) ∧ decode cX12_begins 49 = .ok (.aload_n 0, 1) := by decide +kernel
theorem e_X12_begins_3 : decode cX12_begins 50 = .ok (.iconst 0, 1) ∧ decode cX12_begins 51 = .ok (.putfield 117, 3) ∧ decode cX12_begins 54 = .ok (.aload_n 0, 1) ∧ decode cX12_begins 55 = .ok (.iconst 0, 1) ∧ decode cX12_begins 56 = .ok (.putfield 163, 3) ∧ decode cX12_begins 59 = .ok (.aload_n 0, 1) ∧ decode cX12_begins 60 = .ok (.iconst (-1), 1) ∧ decode cX12_begins 61 = .ok (.putfield 41, 3) ∧ decode cX12_begins 64 = .ok (.aload_n 0, 1) ∧ decode cX12_begins 65 = .ok (.iconst 0, 1) := by decide +kernel
theorem e_X12_begins_4 : decode cX12_begins 66 = .ok (.putfield 126, 3) ∧ decode cX12_begins 69 = .ok (.aload_n 0, 1) ∧ decode cX12_begins 70 = .ok (.iconst 0, 1) ∧ decode cX12_begins 71 = .ok (.putfield 166, 3) ∧ decode cX12_begins 74 = .ok (.aload_n 0, 1) ∧ decode cX12_begins 75 = .ok (.invokevirtual 169, 3) ∧ decode cX12_begins 78 = .ok (.iconst 1, 1) ∧ decode cX12_begins 79 = .ok (.ireturn, 1) := by decide +kernel
abbrev E_X12_begins_26 (G : Kg) (l1 l3 : Int) (σ : Kmem) (Q : Int → Kmem → Prop) : Prop := Ex G WM M_X12_begins 2 0 0 26 [(0, vA G 0), (1, vI l1), (3, vI l3)] [] σ Q
theorem S_X12_begins {G : Kg} {σ : Kmem} {Q : Int → Kmem → Prop} {l1 l2 : Int}  (h : (rI l1) ∧ ((l1 < 0 → Q 0 σ) ∧ (0 ≤ l1 → (rI (σ 0 10)) ∧ ((σ 0 10 < l1 → Q 0 σ) ∧ (l1 ≤ σ 0 10 → (rI l2) ∧ ((l1 ≤ l2 → E_X12_begins_26 G l1 0 (kup σ 0 11 l1) Q) ∧ (l2 < l1 → Q 0 σ))))))) : Run G WM M_X12_begins 2 0 0 [vA G 0, vI l1, vI l2] σ Q := by
  refine Run.of (by decide +kernel) (by show (3 : Nat) ≤ 4; decide) ?_
  show Ex G WM M_X12_begins 2 0 0 0 [(0, vA G 0), (1, vI l1), (2, vI l2)] [] σ Q
  refine R_iload_n e_X12_begins_0.1 1 rfl ?_
  obtain ⟨q1, h⟩ := h
  refine R_if_lt 17 e_X12_begins_0.2.1 (by decide) q1  (fun q => ?_) (fun q => ?_)
  · replace h := h.1 q
    refine R_iconst e_X12_begins_0.2.2.2.2.2.2.2.2.2 ?_
    exact R_zreturn e_X12_begins_1.1 rfl (Or.inl rfl) h
  · replace h := h.2 q
    refine R_iload_n e_X12_begins_0.2.2.1 1 rfl ?_
    refine R_aload_n e_X12_begins_0.2.2.2.1 0 rfl ?_
    refine R_getI 12 10 10 e_X12_begins_0.2.2.2.2.1 f_X12_117 km_0 (fun _ _ => rfl) rfl ?_
    obtain ⟨q2, h⟩ := h
    refine R_icmp_gt 17 e_X12_begins_0.2.2.2.2.2.1 (by decide) q1 q2 (fun q => ?_) (fun q => ?_)
    · replace h := h.1 q
      refine R_iconst e_X12_begins_0.2.2.2.2.2.2.2.2.2 ?_
      exact R_zreturn e_X12_begins_1.1 rfl (Or.inl rfl) h
    · replace h := h.2 q
      refine R_iload_n e_X12_begins_0.2.2.2.2.2.2.1 1 rfl ?_
      refine R_iload_n e_X12_begins_0.2.2.2.2.2.2.2.1 2 rfl ?_
      obtain ⟨q3, h⟩ := h
      refine R_icmp_le 19 e_X12_begins_0.2.2.2.2.2.2.2.2.1 (by decide) q1 q3 (fun q => ?_) (fun q => ?_)
      · replace h := h.1 q
        refine R_aload_n e_X12_begins_1.2.1 0 rfl ?_
        refine R_iload_n e_X12_begins_1.2.2.1 1 rfl ?_
        refine R_putI 12 11 11 WM_ok e_X12_begins_1.2.2.2.1 f_X12_123 km_0 rfl rfl rfl ?_
        refine R_iconst e_X12_begins_1.2.2.2.2.1 ?_
        refine R_istore_n (ls2 := [(3, vI 0), (0, vA G 0), (1, vI l1), (2, vI l2)]) e_X12_begins_1.2.2.2.2.2.1 (by decide) rfl ?_
        refine R_ls (ls2 := [(0, vA G 0), (1, vI l1), (3, vI 0)]) [1, 2, 0] rfl ?_
        exact h
      · replace h := h.2 q
        refine R_iconst e_X12_begins_0.2.2.2.2.2.2.2.2.2 ?_
        exact R_zreturn e_X12_begins_1.1 rfl (Or.inl rfl) h
theorem S_X12_begins_26 {G : Kg} {σ : Kmem} {Q : Int → Kmem → Prop} {l1 l2 l3 : Int}  (h : (rI l3) ∧ (rI l1) ∧ ((l1 ≤ l3 → Run G WM M_X12_ahead 1 0 0 [vA G 0] (kup (kup (kup (kup (kup σ 0 10 0) 0 18 0) 0 17 (-1)) 0 14 0) 0 19 0) (fun r6 s7 => Q 1 s7)) ∧ (l3 < l1 → (0 ≤ l3 ∧ l3 < 900) ∧ (0 ≤ l3 ∧ l3 < 900) ∧ E_X12_begins_26 G l1 (l3 + 1) (kup σ 7 l3 (ki2b (σ 6 l3))) Q))) : E_X12_begins_26 G l1 l3 σ Q := by
  refine R_iload_n e_X12_begins_1.2.2.2.2.2.2.1 2 rfl ?_
  refine R_iload_n e_X12_begins_1.2.2.2.2.2.2.2.1 1 rfl ?_
  obtain ⟨q4, h⟩ := h
  obtain ⟨q5, h⟩ := h
  refine R_icmp_ge 49 e_X12_begins_1.2.2.2.2.2.2.2.2.1 (by decide) q4 q5 (fun q => ?_) (fun q => ?_)
  · replace h := h.1 q
    refine R_aload_n e_X12_begins_2.2.2.2.2.2.2.2.2.2 0 rfl ?_
    refine R_iconst e_X12_begins_3.1 ?_
    refine R_putI 12 10 10 WM_ok e_X12_begins_3.2.1 f_X12_117 km_0 rfl rfl rfl ?_
    refine R_aload_n e_X12_begins_3.2.2.1 0 rfl ?_
    refine R_iconst e_X12_begins_3.2.2.2.1 ?_
    refine R_putI 12 18 18 WM_ok e_X12_begins_3.2.2.2.2.1 f_X12_163 km_0 rfl rfl rfl ?_
    refine R_aload_n e_X12_begins_3.2.2.2.2.2.1 0 rfl ?_
    refine R_iconst e_X12_begins_3.2.2.2.2.2.2.1 ?_
    refine R_putI 12 17 17 WM_ok e_X12_begins_3.2.2.2.2.2.2.2.1 f_X12_41 km_0 rfl rfl rfl ?_
    refine R_aload_n e_X12_begins_3.2.2.2.2.2.2.2.2.1 0 rfl ?_
    refine R_iconst e_X12_begins_3.2.2.2.2.2.2.2.2.2 ?_
    refine R_putI 12 14 14 WM_ok e_X12_begins_4.1 f_X12_126 km_0 rfl rfl rfl ?_
    refine R_aload_n e_X12_begins_4.2.1 0 rfl ?_
    refine R_iconst e_X12_begins_4.2.2.1 ?_
    refine R_putI 12 19 19 WM_ok e_X12_begins_4.2.2.2.1 f_X12_166 km_0 rfl rfl rfl ?_
    refine R_aload_n e_X12_begins_4.2.2.2.2.1 0 rfl ?_
    refine R_callV (mc := 0) (ms := 0) (mc' := 0) (ms' := 0) (M' := M_X12_ahead) (d' := 1) (as := []) (st := []) 12 0 e_X12_begins_4.2.2.2.2.2.1 (kCVof m_X12_ahead l_X12_169) rfl (by decide) km_0 (by decide) (by decide) rfl rfl (by show (0 : Nat) ≤ 8; decide) ?_
    refine Run.mono h (fun r6 s7 h => ?_)
    refine R_eqs (st2 := []) rfl rfl ?_
    refine R_iconst e_X12_begins_4.2.2.2.2.2.2.1 ?_
    exact R_zreturn e_X12_begins_4.2.2.2.2.2.2.2 rfl (Or.inr rfl) h
  · replace h := h.2 q
    refine R_aload_n e_X12_begins_1.2.2.2.2.2.2.2.2.2 0 rfl ?_
    refine R_getA 12 9 7 e_X12_begins_2.1 f_X12_34 km_0 (fun _ _ => rfl) rm_0_9 (by decide) ?_
    refine R_iload_n e_X12_begins_2.2.1 2 rfl ?_
    refine R_aload_n e_X12_begins_2.2.2.1 0 rfl ?_
    refine R_getA 12 8 6 e_X12_begins_2.2.2.2.1 f_X12_30 km_0 (fun _ _ => rfl) rm_0_8 (by decide) ?_
    refine R_iload_n e_X12_begins_2.2.2.2.2.1 2 rfl ?_
    obtain ⟨q8, h⟩ := h
    refine R_bald 900 e_X12_begins_2.2.2.2.2.2.1 kma_6 q8 ?_
    obtain ⟨q9, h⟩ := h
    refine R_bast 900 WM_ok e_X12_begins_2.2.2.2.2.2.2.1 kma_7 q9 ?_
    refine R_iinc (ls2 := [(3, vI (l3 + 1)), (0, vA G 0), (1, vI l1)]) e_X12_begins_2.2.2.2.2.2.2.2.1 2 rfl (by decide) rfl ?_
    refine R_goto 26 e_X12_begins_2.2.2.2.2.2.2.2.2.1 (by decide) ?_
    refine R_ls (ls2 := [(0, vA G 0), (1, vI l1), (3, vI (l3 + 1))]) [1, 2, 0] rfl ?_
    exact h
/-! KiteLandModel.wantSign(I)Z -/
theorem e_X12_wantSign_0 : decode cX12_wantSign 0 = .ok (.aload_n 0, 1) ∧ decode cX12_wantSign 1 = .ok (.iload_n 1, 1) ∧ decode cX12_wantSign 2 = .ok (.invokevirtual 172, 3) ∧ decode cX12_wantSign 5 = .ok (.ifCond .ne 9, 3) ∧ decode cX12_wantSign 8 = .ok (.aload_n 0, 1) ∧ decode cX12_wantSign 9 = .ok (.iconst 2, 1) ∧ decode cX12_wantSign 10 = .ok (.invokevirtual 175, 3) ∧ decode cX12_wantSign 13 = .ok (.ireturn, 1) ∧ decode cX12_wantSign 14 = .ok (.aload_n 0, 1) ∧ decode cX12_wantSign 15 = .ok (.invokevirtual 169, 3) := by decide +kernel
theorem e_X12_wantSign_1 : decode cX12_wantSign 18 = .ok (.iconst 1, 1) ∧ decode cX12_wantSign 19 = .ok (.ireturn, 1) := by decide +kernel
theorem S_X12_wantSign {G : Kg} {σ : Kmem} {Q : Int → Kmem → Prop} {l1 : Int}  (h : Run G WM M_X12_isSign 0 0 0 [vA G 0, vI l1] σ (fun r1 s2 => (rI r1) ∧ ((r1 ≠ 0 → Run G WM M_X12_ahead 1 0 0 [vA G 0] s2 (fun r4 s5 => Q 1 s5)) ∧ (r1 = 0 → Run G WM M_X12_fails 0 0 0 [vA G 0, vI 2] s2 (fun r6 s7 => (r6 = 0 ∨ r6 = 1) ∧ Q r6 s7))))) : Run G WM M_X12_wantSign 2 0 0 [vA G 0, vI l1] σ Q := by
  refine Run.of (by decide +kernel) (by show (2 : Nat) ≤ 2; decide) ?_
  show Ex G WM M_X12_wantSign 2 0 0 0 [(0, vA G 0), (1, vI l1)] [] σ Q
  refine R_aload_n e_X12_wantSign_0.1 0 rfl ?_
  refine R_iload_n e_X12_wantSign_0.2.1 1 rfl ?_
  refine R_callV (mc := 0) (ms := 0) (mc' := 0) (ms' := 0) (M' := M_X12_isSign) (d' := 0) (as := [vI l1]) (st := []) 12 1 e_X12_wantSign_0.2.2.1 (kCVof m_X12_isSign l_X12_172) rfl (by decide) km_0 (by decide) (by decide) rfl rfl (by show (0 : Nat) ≤ 8; decide) ?_
  refine Run.mono h (fun r1 s2 h => ?_)
  refine R_eqs (st2 := [vI r1]) rfl rfl ?_
  obtain ⟨q3, h⟩ := h
  refine R_if_ne 14 e_X12_wantSign_0.2.2.2.1 (by decide) q3  (fun q => ?_) (fun q => ?_)
  · replace h := h.1 q
    refine R_aload_n e_X12_wantSign_0.2.2.2.2.2.2.2.2.1 0 rfl ?_
    refine R_callV (mc := 0) (ms := 0) (mc' := 0) (ms' := 0) (M' := M_X12_ahead) (d' := 1) (as := []) (st := []) 12 0 e_X12_wantSign_0.2.2.2.2.2.2.2.2.2 (kCVof m_X12_ahead l_X12_169) rfl (by decide) km_0 (by decide) (by decide) rfl rfl (by show (0 : Nat) ≤ 8; decide) ?_
    refine Run.mono h (fun r4 s5 h => ?_)
    refine R_eqs (st2 := []) rfl rfl ?_
    refine R_iconst e_X12_wantSign_1.1 ?_
    exact R_zreturn e_X12_wantSign_1.2 rfl (Or.inr rfl) h
  · replace h := h.2 q
    refine R_aload_n e_X12_wantSign_0.2.2.2.2.1 0 rfl ?_
    refine R_iconst e_X12_wantSign_0.2.2.2.2.2.1 ?_
    refine R_callV (mc := 0) (ms := 0) (mc' := 0) (ms' := 0) (M' := M_X12_fails) (d' := 0) (as := [vI 2]) (st := []) 12 1 e_X12_wantSign_0.2.2.2.2.2.2.1 (kCVof m_X12_fails l_X12_175) rfl (by decide) km_0 (by decide) (by decide) rfl rfl (by show (0 : Nat) ≤ 8; decide) ?_
    refine Run.mono h (fun r6 s7 h => ?_)
    refine R_eqs (st2 := [vI r6]) rfl rfl ?_
    obtain ⟨q8, h⟩ := h
    exact R_zreturn e_X12_wantSign_0.2.2.2.2.2.2.2.1 rfl q8 h
/-! KiteLandModel.wantWord(Ljava/lang/String;I)Z -/
theorem e_X12_wantWord_0 : decode cX12_wantWord 0 = .ok (.aload_n 0, 1) ∧ decode cX12_wantWord 1 = .ok (.aload_n 1, 1) ∧ decode cX12_wantWord 2 = .ok (.invokevirtual 178, 3) ∧ decode cX12_wantWord 5 = .ok (.iload_n 2, 1) ∧ decode cX12_wantWord 6 = .ok (.if_icmp .eq 9, 3) ∧ decode cX12_wantWord 9 = .ok (.aload_n 0, 1) ∧ decode cX12_wantWord 10 = .ok (.iconst 2, 1) ∧ decode cX12_wantWord 11 = .ok (.invokevirtual 175, 3) ∧ decode cX12_wantWord 14 = .ok (.ireturn, 1) ∧ decode cX12_wantWord 15 = .ok (.aload_n 0, 1) := by decide +kernel
theorem e_X12_wantWord_1 : decode cX12_wantWord 16 = .ok (.invokevirtual 169, 3) ∧ decode cX12_wantWord 19 = .ok (.iconst 1, 1) ∧ decode cX12_wantWord 20 = .ok (.ireturn, 1) := by decide +kernel
theorem S_X12_wantWord {G : Kg} {σ : Kmem} {Q : Int → Kmem → Prop} {i : Nat} {si : String × Nat × String × List Int32} (hi : kStrs[i]? = some si) {l2 : Int}  (h : Run G WM M_X12_inWords 4 0 0 [vA G 0, vA G (-((10 + i : Nat) : Int))] σ (fun r1 s2 => (rI r1) ∧ (rI l2) ∧ ((r1 = l2 → Run G WM M_X12_ahead 1 0 0 [vA G 0] s2 (fun r5 s6 => Q 1 s6)) ∧ (r1 ≠ l2 → Run G WM M_X12_fails 0 0 0 [vA G 0, vI 2] s2 (fun r7 s8 => (r7 = 0 ∨ r7 = 1) ∧ Q r7 s8))))) : Run G WM M_X12_wantWord 5 0 0 [vA G 0, vA G (-((10 + i : Nat) : Int)), vI l2] σ Q := by
  refine Run.of (by decide +kernel) (by show (3 : Nat) ≤ 3; decide) ?_
  show Ex G WM M_X12_wantWord 5 0 0 0 [(0, vA G 0), (1, vA G (-((10 + i : Nat) : Int))), (2, vI l2)] [] σ Q
  refine R_aload_n e_X12_wantWord_0.1 0 rfl ?_
  refine R_aload_n e_X12_wantWord_0.2.1 1 rfl ?_
  refine R_callV (mc := 0) (ms := 0) (mc' := 0) (ms' := 0) (M' := M_X12_inWords) (d' := 4) (as := [vA G (-((10 + i : Nat) : Int))]) (st := []) 12 1 e_X12_wantWord_0.2.2.1 (kCVof m_X12_inWords l_X12_178) rfl (by decide) km_0 (by decide) (by decide) rfl rfl (by show (0 : Nat) ≤ 8; decide) ?_
  refine Run.mono h (fun r1 s2 h => ?_)
  refine R_eqs (st2 := [vI r1]) rfl rfl ?_
  refine R_iload_n e_X12_wantWord_0.2.2.2.1 2 rfl ?_
  obtain ⟨q3, h⟩ := h
  obtain ⟨q4, h⟩ := h
  refine R_icmp_eq 15 e_X12_wantWord_0.2.2.2.2.1 (by decide) q3 q4 (fun q => ?_) (fun q => ?_)
  · replace h := h.1 q
    refine R_aload_n e_X12_wantWord_0.2.2.2.2.2.2.2.2.2 0 rfl ?_
    refine R_callV (mc := 0) (ms := 0) (mc' := 0) (ms' := 0) (M' := M_X12_ahead) (d' := 1) (as := []) (st := []) 12 0 e_X12_wantWord_1.1 (kCVof m_X12_ahead l_X12_169) rfl (by decide) km_0 (by decide) (by decide) rfl rfl (by show (0 : Nat) ≤ 8; decide) ?_
    refine Run.mono h (fun r5 s6 h => ?_)
    refine R_eqs (st2 := []) rfl rfl ?_
    refine R_iconst e_X12_wantWord_1.2.1 ?_
    exact R_zreturn e_X12_wantWord_1.2.2 rfl (Or.inr rfl) h
  · replace h := h.2 q
    refine R_aload_n e_X12_wantWord_0.2.2.2.2.2.1 0 rfl ?_
    refine R_iconst e_X12_wantWord_0.2.2.2.2.2.2.1 ?_
    refine R_callV (mc := 0) (ms := 0) (mc' := 0) (ms' := 0) (M' := M_X12_fails) (d' := 0) (as := [vI 2]) (st := []) 12 1 e_X12_wantWord_0.2.2.2.2.2.2.2.1 (kCVof m_X12_fails l_X12_175) rfl (by decide) km_0 (by decide) (by decide) rfl rfl (by show (0 : Nat) ≤ 8; decide) ?_
    refine Run.mono h (fun r7 s8 h => ?_)
    refine R_eqs (st2 := [vI r7]) rfl rfl ?_
    obtain ⟨q9, h⟩ := h
    exact R_zreturn e_X12_wantWord_0.2.2.2.2.2.2.2.2.1 rfl q9 h
/-! KiteLandModel.number(III)Z -/
theorem e_X12_number_0 : decode cX12_number 0 = .ok (.aload_n 0, 1) ∧ decode cX12_number 1 = .ok (.getfield 138, 3) ∧ decode cX12_number 4 = .ok (.iconst 3, 1) ∧ decode cX12_number 5 = .ok (.if_icmp .eq 9, 3) ∧ decode cX12_number 8 = .ok (.aload_n 0, 1) ∧ decode cX12_number 9 = .ok (.iconst 2, 1) ∧ decode cX12_number 10 = .ok (.invokevirtual 175, 3) ∧ decode cX12_number 13 = .ok (.ireturn, 1) ∧ decode cX12_number 14 = .ok (.aload_n 0, 1) ∧ decode cX12_number 15 = .ok (.getfield 135, 3) := by decide +kernel
theorem e_X12_number_1 : decode cX12_number 18 = .ok (.iload_n 2, 1) ∧ decode cX12_number 19 = .ok (.if_icmp .lt 11, 3) ∧ decode cX12_number 22 = .ok (.aload_n 0, 1) ∧ decode cX12_number 23 = .ok (.getfield 135, 3) ∧ decode cX12_number 26 = .ok (.iload_n 3, 1) ∧ decode cX12_number 27 = .ok (.if_icmp .le 9, 3) ∧ decode cX12_number 30 = .ok (.aload_n 0, 1) ∧ decode cX12_number 31 = .ok (.iconst 4, 1) ∧ decode cX12_number 32 = .ok (.invokevirtual 175, 3) ∧ decode cX12_number 35 = .ok (.ireturn, 1) := by decide +kernel
theorem e_X12_number_2 : decode cX12_number 36 = .ok (.aload_n 0, 1) ∧ decode cX12_number 37 = .ok (.getfield 7, 3) ∧ decode cX12_number 40 = .ok (.iload_n 1, 1) ∧ decode cX12_number 41 = .ok (.aload_n 0, 1) ∧ decode cX12_number 42 = .ok (.getfield 135, 3) ∧ decode cX12_number 45 = .ok (.iastore, 1) ∧ decode cX12_number 46 = .ok (.aload_n 0, 1) ∧ decode cX12_number 47 = .ok (.invokevirtual 169, 3) ∧ decode cX12_number 50 = .ok (.iconst 1, 1) ∧ decode cX12_number 51 = .ok (.ireturn, 1) := by decide +kernel
theorem S_X12_number {G : Kg} {σ : Kmem} {Q : Int → Kmem → Prop} {l1 l2 l3 : Int}  (h : (rI (σ 0 12)) ∧ ((σ 0 12 = 3 → (rI (σ 0 15)) ∧ (rI l2) ∧ ((σ 0 15 < l2 → Run G WM M_X12_fails 0 0 0 [vA G 0, vI 4] σ (fun r4 s5 => (r4 = 0 ∨ r4 = 1) ∧ Q r4 s5)) ∧ (l2 ≤ σ 0 15 → (rI l3) ∧ ((σ 0 15 ≤ l3 → (0 ≤ l1 ∧ l1 < 3598) ∧ Run G WM M_X12_ahead 1 0 0 [vA G 0] (kup σ 1 l1 (σ 0 15)) (fun r9 s10 => Q 1 s10)) ∧ (l3 < σ 0 15 → Run G WM M_X12_fails 0 0 0 [vA G 0, vI 4] σ (fun r11 s12 => (r11 = 0 ∨ r11 = 1) ∧ Q r11 s12)))))) ∧ (σ 0 12 ≠ 3 → Run G WM M_X12_fails 0 0 0 [vA G 0, vI 2] σ (fun r14 s15 => (r14 = 0 ∨ r14 = 1) ∧ Q r14 s15)))) : Run G WM M_X12_number 2 0 0 [vA G 0, vI l1, vI l2, vI l3] σ Q := by
  refine Run.of (by decide +kernel) (by show (4 : Nat) ≤ 4; decide) ?_
  show Ex G WM M_X12_number 2 0 0 0 [(0, vA G 0), (1, vI l1), (2, vI l2), (3, vI l3)] [] σ Q
  refine R_aload_n e_X12_number_0.1 0 rfl ?_
  refine R_getI 12 12 12 e_X12_number_0.2.1 f_X12_138 km_0 (fun _ _ => rfl) rfl ?_
  refine R_iconst e_X12_number_0.2.2.1 ?_
  obtain ⟨q1, h⟩ := h
  refine R_icmp_eq 14 e_X12_number_0.2.2.2.1 (by decide) q1 (by decide) (fun q => ?_) (fun q => ?_)
  · replace h := h.1 q
    refine R_aload_n e_X12_number_0.2.2.2.2.2.2.2.2.1 0 rfl ?_
    refine R_getI 12 15 15 e_X12_number_0.2.2.2.2.2.2.2.2.2 f_X12_135 km_0 (fun _ _ => rfl) rfl ?_
    refine R_iload_n e_X12_number_1.1 2 rfl ?_
    obtain ⟨q2, h⟩ := h
    obtain ⟨q3, h⟩ := h
    refine R_icmp_lt 30 e_X12_number_1.2.1 (by decide) q2 q3 (fun q => ?_) (fun q => ?_)
    · replace h := h.1 q
      refine R_aload_n e_X12_number_1.2.2.2.2.2.2.1 0 rfl ?_
      refine R_iconst e_X12_number_1.2.2.2.2.2.2.2.1 ?_
      refine R_callV (mc := 0) (ms := 0) (mc' := 0) (ms' := 0) (M' := M_X12_fails) (d' := 0) (as := [vI 4]) (st := []) 12 1 e_X12_number_1.2.2.2.2.2.2.2.2.1 (kCVof m_X12_fails l_X12_175) rfl (by decide) km_0 (by decide) (by decide) rfl rfl (by show (0 : Nat) ≤ 8; decide) ?_
      refine Run.mono h (fun r4 s5 h => ?_)
      refine R_eqs (st2 := [vI r4]) rfl rfl ?_
      obtain ⟨q6, h⟩ := h
      exact R_zreturn e_X12_number_1.2.2.2.2.2.2.2.2.2 rfl q6 h
    · replace h := h.2 q
      refine R_aload_n e_X12_number_1.2.2.1 0 rfl ?_
      refine R_getI 12 15 15 e_X12_number_1.2.2.2.1 f_X12_135 km_0 (fun _ _ => rfl) rfl ?_
      refine R_iload_n e_X12_number_1.2.2.2.2.1 3 rfl ?_
      obtain ⟨q7, h⟩ := h
      refine R_icmp_le 36 e_X12_number_1.2.2.2.2.2.1 (by decide) q2 q7 (fun q => ?_) (fun q => ?_)
      · replace h := h.1 q
        refine R_aload_n e_X12_number_2.1 0 rfl ?_
        refine R_getA 12 0 1 e_X12_number_2.2.1 f_X12_7 km_0 (fun _ _ => rfl) rm_0_0 (by decide) ?_
        refine R_iload_n e_X12_number_2.2.2.1 1 rfl ?_
        refine R_aload_n e_X12_number_2.2.2.2.1 0 rfl ?_
        refine R_getI 12 15 15 e_X12_number_2.2.2.2.2.1 f_X12_135 km_0 (fun _ _ => rfl) rfl ?_
        obtain ⟨q8, h⟩ := h
        refine R_iast 3598 WM_ok e_X12_number_2.2.2.2.2.2.1 kma_1 q8 ?_
        refine R_aload_n e_X12_number_2.2.2.2.2.2.2.1 0 rfl ?_
        refine R_callV (mc := 0) (ms := 0) (mc' := 0) (ms' := 0) (M' := M_X12_ahead) (d' := 1) (as := []) (st := []) 12 0 e_X12_number_2.2.2.2.2.2.2.2.1 (kCVof m_X12_ahead l_X12_169) rfl (by decide) km_0 (by decide) (by decide) rfl rfl (by show (0 : Nat) ≤ 8; decide) ?_
        refine Run.mono h (fun r9 s10 h => ?_)
        refine R_eqs (st2 := []) rfl rfl ?_
        refine R_iconst e_X12_number_2.2.2.2.2.2.2.2.2.1 ?_
        exact R_zreturn e_X12_number_2.2.2.2.2.2.2.2.2.2 rfl (Or.inr rfl) h
      · replace h := h.2 q
        refine R_aload_n e_X12_number_1.2.2.2.2.2.2.1 0 rfl ?_
        refine R_iconst e_X12_number_1.2.2.2.2.2.2.2.1 ?_
        refine R_callV (mc := 0) (ms := 0) (mc' := 0) (ms' := 0) (M' := M_X12_fails) (d' := 0) (as := [vI 4]) (st := []) 12 1 e_X12_number_1.2.2.2.2.2.2.2.2.1 (kCVof m_X12_fails l_X12_175) rfl (by decide) km_0 (by decide) (by decide) rfl rfl (by show (0 : Nat) ≤ 8; decide) ?_
        refine Run.mono h (fun r11 s12 h => ?_)
        refine R_eqs (st2 := [vI r11]) rfl rfl ?_
        obtain ⟨q13, h⟩ := h
        exact R_zreturn e_X12_number_1.2.2.2.2.2.2.2.2.2 rfl q13 h
  · replace h := h.2 q
    refine R_aload_n e_X12_number_0.2.2.2.2.1 0 rfl ?_
    refine R_iconst e_X12_number_0.2.2.2.2.2.1 ?_
    refine R_callV (mc := 0) (ms := 0) (mc' := 0) (ms' := 0) (M' := M_X12_fails) (d' := 0) (as := [vI 2]) (st := []) 12 1 e_X12_number_0.2.2.2.2.2.2.1 (kCVof m_X12_fails l_X12_175) rfl (by decide) km_0 (by decide) (by decide) rfl rfl (by show (0 : Nat) ≤ 8; decide) ?_
    refine Run.mono h (fun r14 s15 h => ?_)
    refine R_eqs (st2 := [vI r14]) rfl rfl ?_
    obtain ⟨q16, h⟩ := h
    exact R_zreturn e_X12_number_0.2.2.2.2.2.2.2.1 rfl q16 h
/-! KiteLandModel.isName(Ljava/lang/String;)Z -/
theorem e_X12_isName_0 : decode cX12_isName 0 = .ok (.aload_n 0, 1) ∧ decode cX12_isName 1 = .ok (.getfield 138, 3) ∧ decode cX12_isName 4 = .ok (.iconst 2, 1) ∧ decode cX12_isName 5 = .ok (.if_icmp .ne 30, 3) ∧ decode cX12_isName 8 = .ok (.aload_n 0, 1) ∧ decode cX12_isName 9 = .ok (.getfield 126, 3) ∧ decode cX12_isName 12 = .ok (.aload_n 0, 1) ∧ decode cX12_isName 13 = .ok (.getfield 132, 3) ∧ decode cX12_isName 16 = .ok (.isub, 1) ∧ decode cX12_isName 17 = .ok (.bipush 8, 2) := by decide +kernel
theorem e_X12_isName_1 : decode cX12_isName 19 = .ok (.if_icmp .gt 16, 3) ∧ decode cX12_isName 22 = .ok (.aload_n 0, 1) ∧ decode cX12_isName 23 = .ok (.aload_n 1, 1) ∧ decode cX12_isName 24 = .ok (.invokevirtual 178, 3) ∧ decode cX12_isName 27 = .ok (.iconst (-1), 1) ∧ decode cX12_isName 28 = .ok (.if_icmp .ne 7, 3) ∧ decode cX12_isName 31 = .ok (.iconst 1, 1) ∧ decode cX12_isName 32 = .ok (.goto 4, 3) ∧ decode cX12_isName 35 = .ok (.iconst 0, 1) ∧ decode cX12_isName 36 = .ok (.ireturn, 1) := by decide +kernel
theorem S_X12_isName {G : Kg} {σ : Kmem} {Q : Int → Kmem → Prop} {i : Nat} {si : String × Nat × String × List Int32} (hi : kStrs[i]? = some si)  (h : (rI (σ 0 12)) ∧ ((σ 0 12 ≠ 2 → Q 0 σ) ∧ (σ 0 12 = 2 → (rI ((σ 0 14) - (σ 0 13))) ∧ ((8 < (σ 0 14) - (σ 0 13) → Q 0 σ) ∧ ((σ 0 14) - (σ 0 13) ≤ 8 → Run G WM M_X12_inWords 4 0 0 [vA G 0, vA G (-((10 + i : Nat) : Int))] σ (fun r3 s4 => (rI r3) ∧ ((r3 ≠ -1 → Q 0 s4) ∧ (r3 = -1 → Q 1 s4)))))))) : Run G WM M_X12_isName 5 0 0 [vA G 0, vA G (-((10 + i : Nat) : Int))] σ Q := by
  refine Run.of (by decide +kernel) (by show (2 : Nat) ≤ 2; decide) ?_
  show Ex G WM M_X12_isName 5 0 0 0 [(0, vA G 0), (1, vA G (-((10 + i : Nat) : Int)))] [] σ Q
  refine R_aload_n e_X12_isName_0.1 0 rfl ?_
  refine R_getI 12 12 12 e_X12_isName_0.2.1 f_X12_138 km_0 (fun _ _ => rfl) rfl ?_
  refine R_iconst e_X12_isName_0.2.2.1 ?_
  obtain ⟨q1, h⟩ := h
  refine R_icmp_ne 35 e_X12_isName_0.2.2.2.1 (by decide) q1 (by decide) (fun q => ?_) (fun q => ?_)
  · replace h := h.1 q
    refine R_iconst e_X12_isName_1.2.2.2.2.2.2.2.2.1 ?_
    exact R_zreturn e_X12_isName_1.2.2.2.2.2.2.2.2.2 rfl (Or.inl rfl) h
  · replace h := h.2 q
    refine R_aload_n e_X12_isName_0.2.2.2.2.1 0 rfl ?_
    refine R_getI 12 14 14 e_X12_isName_0.2.2.2.2.2.1 f_X12_126 km_0 (fun _ _ => rfl) rfl ?_
    refine R_aload_n e_X12_isName_0.2.2.2.2.2.2.1 0 rfl ?_
    refine R_getI 12 13 13 e_X12_isName_0.2.2.2.2.2.2.2.1 f_X12_132 km_0 (fun _ _ => rfl) rfl ?_
    refine R_isub e_X12_isName_0.2.2.2.2.2.2.2.2.1 ?_
    refine R_bipush e_X12_isName_0.2.2.2.2.2.2.2.2.2 (by decide) ?_
    obtain ⟨q2, h⟩ := h
    refine R_icmp_gt 35 e_X12_isName_1.1 (by decide) q2 (by decide) (fun q => ?_) (fun q => ?_)
    · replace h := h.1 q
      refine R_iconst e_X12_isName_1.2.2.2.2.2.2.2.2.1 ?_
      exact R_zreturn e_X12_isName_1.2.2.2.2.2.2.2.2.2 rfl (Or.inl rfl) h
    · replace h := h.2 q
      refine R_aload_n e_X12_isName_1.2.1 0 rfl ?_
      refine R_aload_n e_X12_isName_1.2.2.1 1 rfl ?_
      refine R_callV (mc := 0) (ms := 0) (mc' := 0) (ms' := 0) (M' := M_X12_inWords) (d' := 4) (as := [vA G (-((10 + i : Nat) : Int))]) (st := []) 12 1 e_X12_isName_1.2.2.2.1 (kCVof m_X12_inWords l_X12_178) rfl (by decide) km_0 (by decide) (by decide) rfl rfl (by show (0 : Nat) ≤ 8; decide) ?_
      refine Run.mono h (fun r3 s4 h => ?_)
      refine R_eqs (st2 := [vI r3]) rfl rfl ?_
      refine R_iconst e_X12_isName_1.2.2.2.2.1 ?_
      obtain ⟨q5, h⟩ := h
      refine R_icmp_ne 35 e_X12_isName_1.2.2.2.2.2.1 (by decide) q5 (by decide) (fun q => ?_) (fun q => ?_)
      · replace h := h.1 q
        refine R_iconst e_X12_isName_1.2.2.2.2.2.2.2.2.1 ?_
        exact R_zreturn e_X12_isName_1.2.2.2.2.2.2.2.2.2 rfl (Or.inl rfl) h
      · replace h := h.2 q
        refine R_iconst e_X12_isName_1.2.2.2.2.2.2.1 ?_
        refine R_goto 36 e_X12_isName_1.2.2.2.2.2.2.2.1 (by decide) ?_
        exact R_zreturn e_X12_isName_1.2.2.2.2.2.2.2.2.2 rfl (Or.inr rfl) h
/-! KiteLandModel.nameHere()J -/
theorem e_X12_nameHere_0 : decode cX12_nameHere 0 = .ok (.lconst 0, 1) ∧ decode cX12_nameHere 1 = .ok (.lstore_n 1, 1) ∧ decode cX12_nameHere 2 = .ok (.aload_n 0, 1) ∧ decode cX12_nameHere 3 = .ok (.getfield 132, 3) ∧ decode cX12_nameHere 6 = .ok (.istore_n 3, 1) ∧ decode cX12_nameHere 7 = .ok (.iload_n 3, 1) ∧ decode cX12_nameHere 8 = .ok (.aload_n 0, 1) ∧ decode cX12_nameHere 9 = .ok (.getfield 126, 3) ∧ decode cX12_nameHere 12 = .ok (.if_icmp .ge 21, 3) ∧ decode cX12_nameHere 15 = .ok (.lload_n 1, 1) := by decide +kernel
theorem e_X12_nameHere_1 : decode cX12_nameHere 16 = .ok (.bipush 8, 2) ∧ decode cX12_nameHere 18 = .ok (.lshl, 1) ∧ decode cX12_nameHere 19 = .ok (.aload_n 0, 1) ∧ decode cX12_nameHere 20 = .ok (.iload_n 3, 1) ∧ decode cX12_nameHere 21 = .ok (.invokevirtual 129, 3) ∧ decode cX12_nameHere 24 = .ok (.i2l, 1) ∧ decode cX12_nameHere 25 = .ok (.lor, 1) ∧ decode cX12_nameHere 26 = .ok (.lstore_n 1, 1) ∧ decode cX12_nameHere 27 = .ok (.iinc 3 1, 3) ∧ decode cX12_nameHere 30 = .ok (.goto (-23), 3) := by decide +kernel
theorem e_X12_nameHere_2 : decode cX12_nameHere 33 = .ok (.lload_n 1, 1) ∧ decode cX12_nameHere 34 = .ok (.lreturn, 1) := by decide +kernel
abbrev E_X12_nameHere_7 (G : Kg) (l1 l3 : Int) (σ : Kmem) (Q : Int → Kmem → Prop) : Prop := Ex G WM M_X12_nameHere 1 0 0 7 [(0, vA G 0), (1, vL l1), (3, vI l3)] [] σ Q
theorem S_X12_nameHere {G : Kg} {σ : Kmem} {Q : Int → Kmem → Prop}  (h : E_X12_nameHere_7 G 0 (σ 0 13) σ Q) : Run G WM M_X12_nameHere 1 0 0 [vA G 0] σ Q := by
  refine Run.of (by decide +kernel) (by show (1 : Nat) ≤ 4; decide) ?_
  show Ex G WM M_X12_nameHere 1 0 0 0 [(0, vA G 0)] [] σ Q
  refine R_lconst 0 e_X12_nameHere_0.1 (by decide) ?_
  refine R_lstore_n (ls2 := [(1, vL 0), (0, vA G 0)]) e_X12_nameHere_0.2.1 (by decide) rfl ?_
  refine R_aload_n e_X12_nameHere_0.2.2.1 1 rfl ?_
  refine R_getI 12 13 13 e_X12_nameHere_0.2.2.2.1 f_X12_132 km_0 (fun _ _ => rfl) rfl ?_
  refine R_istore_n (ls2 := [(3, vI (σ 0 13)), (1, vL 0), (0, vA G 0)]) e_X12_nameHere_0.2.2.2.2.1 (by decide) rfl ?_
  refine R_ls (ls2 := [(0, vA G 0), (1, vL 0), (3, vI (σ 0 13))]) [2, 1, 0] rfl ?_
  exact h
theorem S_X12_nameHere_7 {G : Kg} {σ : Kmem} {Q : Int → Kmem → Prop} {l1 l3 : Int}  (h : (rI l3) ∧ (rI (σ 0 14)) ∧ ((σ 0 14 ≤ l3 → Q l1 σ) ∧ (l3 < σ 0 14 → Run G WM M_X12_byteAt 0 0 0 [vA G 0, vI l3] σ (fun r3 s4 => (rI r3) ∧ E_X12_nameHere_7 G (klor (klshl l1 8) r3) (l3 + 1) s4 Q)))) : E_X12_nameHere_7 G l1 l3 σ Q := by
  refine R_iload_n e_X12_nameHere_0.2.2.2.2.2.1 2 rfl ?_
  refine R_aload_n e_X12_nameHere_0.2.2.2.2.2.2.1 0 rfl ?_
  refine R_getI 12 14 14 e_X12_nameHere_0.2.2.2.2.2.2.2.1 f_X12_126 km_0 (fun _ _ => rfl) rfl ?_
  obtain ⟨q1, h⟩ := h
  obtain ⟨q2, h⟩ := h
  refine R_icmp_ge 33 e_X12_nameHere_0.2.2.2.2.2.2.2.2.1 (by decide) q1 q2 (fun q => ?_) (fun q => ?_)
  · replace h := h.1 q
    refine R_lload_n e_X12_nameHere_2.1 1 rfl ?_
    exact R_lreturn e_X12_nameHere_2.2 rfl h
  · replace h := h.2 q
    refine R_lload_n e_X12_nameHere_0.2.2.2.2.2.2.2.2.2 1 rfl ?_
    refine R_bipush e_X12_nameHere_1.1 (by decide) ?_
    refine R_lshl e_X12_nameHere_1.2.1 ?_
    refine R_aload_n e_X12_nameHere_1.2.2.1 0 rfl ?_
    refine R_iload_n e_X12_nameHere_1.2.2.2.1 2 rfl ?_
    refine R_callV (mc := 0) (ms := 0) (mc' := 0) (ms' := 0) (M' := M_X12_byteAt) (d' := 0) (as := [vI l3]) (st := [vL (klshl l1 8)]) 12 1 e_X12_nameHere_1.2.2.2.2.1 (kCVof m_X12_byteAt l_X12_129) rfl (by decide) km_0 (by decide) (by decide) rfl rfl (by show (2 : Nat) ≤ 8; decide) ?_
    refine Run.mono h (fun r3 s4 h => ?_)
    refine R_eqs (st2 := [vI r3, vL (klshl l1 8)]) rfl rfl ?_
    obtain ⟨q5, h⟩ := h
    refine R_i2l e_X12_nameHere_1.2.2.2.2.2.1 q5 ?_
    refine R_lor e_X12_nameHere_1.2.2.2.2.2.2.1 ?_
    refine R_lstore_n (ls2 := [(1, vL (klor (klshl l1 8) r3)), (0, vA G 0), (3, vI l3)]) e_X12_nameHere_1.2.2.2.2.2.2.2.1 (by decide) rfl ?_
    refine R_iinc (ls2 := [(3, vI (l3 + 1)), (1, vL (klor (klshl l1 8) r3)), (0, vA G 0)]) e_X12_nameHere_1.2.2.2.2.2.2.2.2.1 2 rfl (by decide) rfl ?_
    refine R_goto 7 e_X12_nameHere_1.2.2.2.2.2.2.2.2.2 (by decide) ?_
    refine R_ls (ls2 := [(0, vA G 0), (1, vL (klor (klshl l1 8) r3)), (3, vI (l3 + 1))]) [2, 1, 0] rfl ?_
    exact h
/-! KiteLandModel.findHere(II)I -/
theorem e_X12_findHere_0 : decode cX12_findHere 0 = .ok (.iconst 0, 1) ∧ decode cX12_findHere 1 = .ok (.istore_n 3, 1) ∧ decode cX12_findHere 2 = .ok (.iload_n 3, 1) ∧ decode cX12_findHere 3 = .ok (.iload_n 2, 1) ∧ decode cX12_findHere 4 = .ok (.if_icmp .ge 27, 3) ∧ decode cX12_findHere 7 = .ok (.aload_n 0, 1) ∧ decode cX12_findHere 8 = .ok (.getfield 13, 3) ∧ decode cX12_findHere 11 = .ok (.iload_n 1, 1) ∧ decode cX12_findHere 12 = .ok (.iload_n 3, 1) ∧ decode cX12_findHere 13 = .ok (.iadd, 1) := by decide +kernel
theorem e_X12_findHere_1 : decode cX12_findHere 14 = .ok (.laload, 1) ∧ decode cX12_findHere 15 = .ok (.aload_n 0, 1) ∧ decode cX12_findHere 16 = .ok (.invokevirtual 182, 3) ∧ decode cX12_findHere 19 = .ok (.lcmp, 1) ∧ decode cX12_findHere 20 = .ok (.ifCond .ne 5, 3) ∧ decode cX12_findHere 23 = .ok (.iload_n 3, 1) ∧ decode cX12_findHere 24 = .ok (.ireturn, 1) ∧ decode cX12_findHere 25 = .ok (.iinc 3 1, 3) ∧ decode cX12_findHere 28 = .ok (.goto (-26), 3) ∧ decode cX12_findHere 31 = .ok (.iconst (-1), 1) := by decide +kernel
theorem e_X12_findHere_2 : decode cX12_findHere 32 = .ok (.ireturn, 1) := by decide +kernel
abbrev E_X12_findHere_2 (G : Kg) (l1 l2 l3 : Int) (σ : Kmem) (Q : Int → Kmem → Prop) : Prop := Ex G WM M_X12_findHere 2 0 0 2 [(0, vA G 0), (1, vI l1), (2, vI l2), (3, vI l3)] [] σ Q
theorem S_X12_findHere {G : Kg} {σ : Kmem} {Q : Int → Kmem → Prop} {l1 l2 : Int}  (h : E_X12_findHere_2 G l1 l2 0 σ Q) : Run G WM M_X12_findHere 2 0 0 [vA G 0, vI l1, vI l2] σ Q := by
  refine Run.of (by decide +kernel) (by show (3 : Nat) ≤ 4; decide) ?_
  show Ex G WM M_X12_findHere 2 0 0 0 [(0, vA G 0), (1, vI l1), (2, vI l2)] [] σ Q
  refine R_iconst e_X12_findHere_0.1 ?_
  refine R_istore_n (ls2 := [(3, vI 0), (0, vA G 0), (1, vI l1), (2, vI l2)]) e_X12_findHere_0.2.1 (by decide) rfl ?_
  refine R_ls (ls2 := [(0, vA G 0), (1, vI l1), (2, vI l2), (3, vI 0)]) [1, 2, 3, 0] rfl ?_
  exact h
theorem S_X12_findHere_2 {G : Kg} {σ : Kmem} {Q : Int → Kmem → Prop} {l1 l2 l3 : Int}  (h : (rI l3) ∧ (rI l2) ∧ ((l2 ≤ l3 → Q (-1) σ) ∧ (l3 < l2 → (0 ≤ l1 + l3 ∧ l1 + l3 < 120) ∧ Run G WM M_X12_nameHere 1 0 0 [vA G 0] σ (fun r4 s5 => (rL (σ 2 (l1 + l3))) ∧ (rL r4) ∧ ((σ 2 (l1 + l3) ≠ r4 → E_X12_findHere_2 G l1 l2 (l3 + 1) s5 Q) ∧ (σ 2 (l1 + l3) = r4 → Q l3 s5)))))) : E_X12_findHere_2 G l1 l2 l3 σ Q := by
  refine R_iload_n e_X12_findHere_0.2.2.1 3 rfl ?_
  refine R_iload_n e_X12_findHere_0.2.2.2.1 2 rfl ?_
  obtain ⟨q1, h⟩ := h
  obtain ⟨q2, h⟩ := h
  refine R_icmp_ge 31 e_X12_findHere_0.2.2.2.2.1 (by decide) q1 q2 (fun q => ?_) (fun q => ?_)
  · replace h := h.1 q
    refine R_iconst e_X12_findHere_1.2.2.2.2.2.2.2.2.2 ?_
    exact R_ireturn e_X12_findHere_2 rfl h
  · replace h := h.2 q
    refine R_aload_n e_X12_findHere_0.2.2.2.2.2.1 0 rfl ?_
    refine R_getA 12 1 2 e_X12_findHere_0.2.2.2.2.2.2.1 f_X12_13 km_0 (fun _ _ => rfl) rm_0_1 (by decide) ?_
    refine R_iload_n e_X12_findHere_0.2.2.2.2.2.2.2.1 1 rfl ?_
    refine R_iload_n e_X12_findHere_0.2.2.2.2.2.2.2.2.1 3 rfl ?_
    refine R_iadd e_X12_findHere_0.2.2.2.2.2.2.2.2.2 ?_
    obtain ⟨q3, h⟩ := h
    refine R_lald 120 e_X12_findHere_1.1 kma_2 q3 ?_
    refine R_aload_n e_X12_findHere_1.2.1 0 rfl ?_
    refine R_callV (mc := 0) (ms := 0) (mc' := 0) (ms' := 0) (M' := M_X12_nameHere) (d' := 1) (as := []) (st := [vL (σ 2 (l1 + l3))]) 12 0 e_X12_findHere_1.2.2.1 (kCVof m_X12_nameHere l_X12_182) rfl (by decide) km_0 (by decide) (by decide) rfl rfl (by show (2 : Nat) ≤ 8; decide) ?_
    refine Run.mono h (fun r4 s5 h => ?_)
    refine R_eqs (st2 := [vL r4, vL (σ 2 (l1 + l3))]) rfl rfl ?_
    obtain ⟨q6, h⟩ := h
    obtain ⟨q7, h⟩ := h
    refine R_lcmp e_X12_findHere_1.2.2.2.1 q6 q7 ?_
    refine R_if_ne 25 e_X12_findHere_1.2.2.2.2.1 (by decide) (kcmp_r _ _) (fun q => ?_) (fun q => ?_)
    · replace h := h.1 (kcmp_ne_t.mp q)
      refine R_iinc (ls2 := [(3, vI (l3 + 1)), (0, vA G 0), (1, vI l1), (2, vI l2)]) e_X12_findHere_1.2.2.2.2.2.2.2.1 3 rfl (by decide) rfl ?_
      refine R_goto 2 e_X12_findHere_1.2.2.2.2.2.2.2.2.1 (by decide) ?_
      refine R_ls (ls2 := [(0, vA G 0), (1, vI l1), (2, vI l2), (3, vI (l3 + 1))]) [1, 2, 3, 0] rfl ?_
      exact h
    · replace h := h.2 (kcmp_ne_f.mp q)
      refine R_iload_n e_X12_findHere_1.2.2.2.2.2.1 3 rfl ?_
      exact R_ireturn e_X12_findHere_1.2.2.2.2.2.2.1 rfl h
/-! KiteLandModel.fault(I)I -/
theorem e_X12_fault_0 : decode cX12_fault 0 = .ok (.iload_n 1, 1) ∧ decode cX12_fault 1 = .ok (.ifCond .ne 10, 3) ∧ decode cX12_fault 4 = .ok (.aload_n 0, 1) ∧ decode cX12_fault 5 = .ok (.getfield 37, 3) ∧ decode cX12_fault 8 = .ok (.goto 16, 3) ∧ decode cX12_fault 11 = .ok (.iload_n 1, 1) ∧ decode cX12_fault 12 = .ok (.iconst 1, 1) ∧ decode cX12_fault 13 = .ok (.if_icmp .ne 10, 3) ∧ decode cX12_fault 16 = .ok (.aload_n 0, 1) ∧ decode cX12_fault 17 = .ok (.getfield 41, 3) := by decide +kernel
theorem e_X12_fault_1 : decode cX12_fault 20 = .ok (.goto 4, 3) ∧ decode cX12_fault 23 = .ok (.iconst (-1), 1) ∧ decode cX12_fault 24 = .ok (.ireturn, 1) := by decide +kernel
theorem S_X12_fault {G : Kg} {σ : Kmem} {Q : Int → Kmem → Prop} {l1 : Int}  (h : (rI l1) ∧ ((l1 ≠ 0 → ((l1 ≠ 1 → Q (-1) σ) ∧ (l1 = 1 → Q (σ 0 17) σ))) ∧ (l1 = 0 → Q (σ 0 16) σ))) : Run G WM M_X12_fault 0 0 0 [vA G 0, vI l1] σ Q := by
  refine Run.of (by decide +kernel) (by show (2 : Nat) ≤ 2; decide) ?_
  show Ex G WM M_X12_fault 0 0 0 0 [(0, vA G 0), (1, vI l1)] [] σ Q
  refine R_iload_n e_X12_fault_0.1 1 rfl ?_
  obtain ⟨q1, h⟩ := h
  refine R_if_ne 11 e_X12_fault_0.2.1 (by decide) q1  (fun q => ?_) (fun q => ?_)
  · replace h := h.1 q
    refine R_iload_n e_X12_fault_0.2.2.2.2.2.1 1 rfl ?_
    refine R_iconst e_X12_fault_0.2.2.2.2.2.2.1 ?_
    refine R_icmp_ne 23 e_X12_fault_0.2.2.2.2.2.2.2.1 (by decide) q1 (by decide) (fun q => ?_) (fun q => ?_)
    · replace h := h.1 q
      refine R_iconst e_X12_fault_1.2.1 ?_
      exact R_ireturn e_X12_fault_1.2.2 rfl h
    · replace h := h.2 q
      refine R_aload_n e_X12_fault_0.2.2.2.2.2.2.2.2.1 0 rfl ?_
      refine R_getI 12 17 17 e_X12_fault_0.2.2.2.2.2.2.2.2.2 f_X12_41 km_0 (fun _ _ => rfl) rfl ?_
      refine R_goto 24 e_X12_fault_1.1 (by decide) ?_
      exact R_ireturn e_X12_fault_1.2.2 rfl h
  · replace h := h.2 q
    refine R_aload_n e_X12_fault_0.2.2.1 0 rfl ?_
    refine R_getI 12 16 16 e_X12_fault_0.2.2.2.1 f_X12_37 km_0 (fun _ _ => rfl) rfl ?_
    refine R_goto 24 e_X12_fault_0.2.2.2.2.1 (by decide) ?_
    exact R_ireturn e_X12_fault_1.2.2 rfl h
/-! KiteLandModel.taken(I)I -/
theorem e_X12_taken_0 : decode cX12_taken 0 = .ok (.aload_n 0, 1) ∧ decode cX12_taken 1 = .ok (.aload_n 0, 1) ∧ decode cX12_taken 2 = .ok (.getfield 163, 3) ∧ decode cX12_taken 5 = .ok (.putfield 37, 3) ∧ decode cX12_taken 8 = .ok (.aload_n 0, 1) ∧ decode cX12_taken 9 = .ok (.getfield 163, 3) ∧ decode cX12_taken 12 = .ok (.ifCond .le 12, 3) ∧ decode cX12_taken 15 = .ok (.aload_n 0, 1) ∧ decode cX12_taken 16 = .ok (.bipush 9, 2) ∧ decode cX12_taken 18 = .ok (.invokevirtual 93, 3) := by decide +kernel
theorem e_X12_taken_1 : decode cX12_taken 21 = .ok (.goto 8, 3) ∧ decode cX12_taken 24 = .ok (.aload_n 0, 1) ∧ decode cX12_taken 25 = .ok (.iload_n 1, 1) ∧ decode cX12_taken 26 = .ok (.invokevirtual 97, 3) ∧ decode cX12_taken 29 = .ok (.ireturn, 1) := by decide +kernel
theorem S_X12_taken {G : Kg} {σ : Kmem} {Q : Int → Kmem → Prop} {l1 : Int}  (h : (rI ((kup σ 0 16 (σ 0 18)) 0 18)) ∧ (((kup σ 0 16 (σ 0 18)) 0 18 ≤ 0 → Run G WM M_X12_gives 0 0 0 [vA G 0, vI l1] (kup σ 0 16 (σ 0 18)) (fun r2 s3 => Q r2 s3)) ∧ (0 < (kup σ 0 16 (σ 0 18)) 0 18 → Run G WM M_X12_refuse 0 0 0 [vA G 0, vI 9] (kup σ 0 16 (σ 0 18)) (fun r4 s5 => Q r4 s5)))) : Run G WM M_X12_taken 1 0 0 [vA G 0, vI l1] σ Q := by
  refine Run.of (by decide +kernel) (by show (2 : Nat) ≤ 2; decide) ?_
  show Ex G WM M_X12_taken 1 0 0 0 [(0, vA G 0), (1, vI l1)] [] σ Q
  refine R_aload_n e_X12_taken_0.1 0 rfl ?_
  refine R_aload_n e_X12_taken_0.2.1 0 rfl ?_
  refine R_getI 12 18 18 e_X12_taken_0.2.2.1 f_X12_163 km_0 (fun _ _ => rfl) rfl ?_
  refine R_putI 12 16 16 WM_ok e_X12_taken_0.2.2.2.1 f_X12_37 km_0 rfl rfl rfl ?_
  refine R_aload_n e_X12_taken_0.2.2.2.2.1 0 rfl ?_
  refine R_getI 12 18 18 e_X12_taken_0.2.2.2.2.2.1 f_X12_163 km_0 (fun _ _ => rfl) rfl ?_
  obtain ⟨q1, h⟩ := h
  refine R_if_le 24 e_X12_taken_0.2.2.2.2.2.2.1 (by decide) q1  (fun q => ?_) (fun q => ?_)
  · replace h := h.1 q
    refine R_aload_n e_X12_taken_1.2.1 0 rfl ?_
    refine R_iload_n e_X12_taken_1.2.2.1 1 rfl ?_
    refine R_callV (mc := 0) (ms := 0) (mc' := 0) (ms' := 0) (M' := M_X12_gives) (d' := 0) (as := [vI l1]) (st := []) 12 1 e_X12_taken_1.2.2.2.1 (kCVof m_X12_gives l_X12_97) rfl (by decide) km_0 (by decide) (by decide) rfl rfl (by show (0 : Nat) ≤ 8; decide) ?_
    refine Run.mono h (fun r2 s3 h => ?_)
    refine R_eqs (st2 := [vI r2]) rfl rfl ?_
    exact R_ireturn e_X12_taken_1.2.2.2.2 rfl h
  · replace h := h.2 q
    refine R_aload_n e_X12_taken_0.2.2.2.2.2.2.2.1 0 rfl ?_
    refine R_bipush e_X12_taken_0.2.2.2.2.2.2.2.2.1 (by decide) ?_
    refine R_callV (mc := 0) (ms := 0) (mc' := 0) (ms' := 0) (M' := M_X12_refuse) (d' := 0) (as := [vI 9]) (st := []) 12 1 e_X12_taken_0.2.2.2.2.2.2.2.2.2 (kCVof m_X12_refuse l_X12_93) rfl (by decide) km_0 (by decide) (by decide) rfl rfl (by show (0 : Nat) ≤ 8; decide) ?_
    refine Run.mono h (fun r4 s5 h => ?_)
    refine R_eqs (st2 := [vI r4]) rfl rfl ?_
    refine R_goto 29 e_X12_taken_1.1 (by decide) ?_
    exact R_ireturn e_X12_taken_1.2.2.2.2 rfl h
/-! KiteLandModel.isThere(I)Z -/
theorem e_X12_isThere_0 : decode cX12_isThere 0 = .ok (.aload_n 0, 1) ∧ decode cX12_isThere 1 = .ok (.ldc 186, 2) ∧ decode cX12_isThere 3 = .ok (.invokevirtual 178, 3) ∧ decode cX12_isThere 6 = .ok (.iload_n 1, 1) ∧ decode cX12_isThere 7 = .ok (.if_icmp .eq 5, 3) ∧ decode cX12_isThere 10 = .ok (.iconst 0, 1) ∧ decode cX12_isThere 11 = .ok (.ireturn, 1) ∧ decode cX12_isThere 12 = .ok (.aload_n 0, 1) ∧ decode cX12_isThere 13 = .ok (.invokevirtual 169, 3) ∧ decode cX12_isThere 16 = .ok (.iconst 1, 1) := by decide +kernel
theorem e_X12_isThere_1 : decode cX12_isThere 17 = .ok (.ireturn, 1) := by decide +kernel
theorem S_X12_isThere {G : Kg} {σ : Kmem} {Q : Int → Kmem → Prop} {l1 : Int}  (h : Run G WM M_X12_inWords 4 0 0 [vA G 0, vA G (-38)] σ (fun r1 s2 => (rI r1) ∧ (rI l1) ∧ ((r1 = l1 → Run G WM M_X12_ahead 1 0 0 [vA G 0] s2 (fun r5 s6 => Q 1 s6)) ∧ (r1 ≠ l1 → Q 0 s2)))) : Run G WM M_X12_isThere 5 0 0 [vA G 0, vI l1] σ Q := by
  refine Run.of (by decide +kernel) (by show (2 : Nat) ≤ 2; decide) ?_
  show Ex G WM M_X12_isThere 5 0 0 0 [(0, vA G 0), (1, vI l1)] [] σ Q
  refine R_aload_n e_X12_isThere_0.1 0 rfl ?_
  refine R_ldcS (i := 28) (-38) e_X12_isThere_0.2.1 rfl rfl ?_
  refine R_callV (mc := 0) (ms := 0) (mc' := 0) (ms' := 0) (M' := M_X12_inWords) (d' := 4) (as := [vA G (-38)]) (st := []) 12 1 e_X12_isThere_0.2.2.1 (kCVof m_X12_inWords l_X12_178) rfl (by decide) km_0 (by decide) (by decide) rfl rfl (by show (0 : Nat) ≤ 8; decide) ?_
  refine Run.mono h (fun r1 s2 h => ?_)
  refine R_eqs (st2 := [vI r1]) rfl rfl ?_
  refine R_iload_n e_X12_isThere_0.2.2.2.1 1 rfl ?_
  obtain ⟨q3, h⟩ := h
  obtain ⟨q4, h⟩ := h
  refine R_icmp_eq 12 e_X12_isThere_0.2.2.2.2.1 (by decide) q3 q4 (fun q => ?_) (fun q => ?_)
  · replace h := h.1 q
    refine R_aload_n e_X12_isThere_0.2.2.2.2.2.2.2.1 0 rfl ?_
    refine R_callV (mc := 0) (ms := 0) (mc' := 0) (ms' := 0) (M' := M_X12_ahead) (d' := 1) (as := []) (st := []) 12 0 e_X12_isThere_0.2.2.2.2.2.2.2.2.1 (kCVof m_X12_ahead l_X12_169) rfl (by decide) km_0 (by decide) (by decide) rfl rfl (by show (0 : Nat) ≤ 8; decide) ?_
    refine Run.mono h (fun r5 s6 h => ?_)
    refine R_eqs (st2 := []) rfl rfl ?_
    refine R_iconst e_X12_isThere_0.2.2.2.2.2.2.2.2.2 ?_
    exact R_zreturn e_X12_isThere_1 rfl (Or.inr rfl) h
  · replace h := h.2 q
    refine R_iconst e_X12_isThere_0.2.2.2.2.2.1 ?_
    exact R_zreturn e_X12_isThere_0.2.2.2.2.2.2.1 rfl (Or.inl rfl) h
/-! KiteLandModel.newOne(III)Z -/
theorem e_X12_newOne_0 : decode cX12_newOne 0 = .ok (.aload_n 0, 1) ∧ decode cX12_newOne 1 = .ok (.getfield 7, 3) ∧ decode cX12_newOne 4 = .ok (.sipush 2056, 3) ∧ decode cX12_newOne 7 = .ok (.iload_n 1, 1) ∧ decode cX12_newOne 8 = .ok (.iadd, 1) ∧ decode cX12_newOne 9 = .ok (.iaload, 1) ∧ decode cX12_newOne 10 = .ok (.iload_n 2, 1) ∧ decode cX12_newOne 11 = .ok (.if_icmp .ne 10, 3) ∧ decode cX12_newOne 14 = .ok (.aload_n 0, 1) ∧ decode cX12_newOne 15 = .ok (.bipush 6, 2) := by decide +kernel
theorem e_X12_newOne_1 : decode cX12_newOne 17 = .ok (.invokevirtual 175, 3) ∧ decode cX12_newOne 20 = .ok (.ireturn, 1) ∧ decode cX12_newOne 21 = .ok (.aload_n 0, 1) ∧ decode cX12_newOne 22 = .ok (.invokevirtual 169, 3) ∧ decode cX12_newOne 25 = .ok (.aload_n 0, 1) ∧ decode cX12_newOne 26 = .ok (.ldc 186, 2) ∧ decode cX12_newOne 28 = .ok (.invokevirtual 188, 3) ∧ decode cX12_newOne 31 = .ok (.ifCond .ne 9, 3) ∧ decode cX12_newOne 34 = .ok (.aload_n 0, 1) ∧ decode cX12_newOne 35 = .ok (.iconst 2, 1) := by decide +kernel
theorem e_X12_newOne_2 : decode cX12_newOne 36 = .ok (.invokevirtual 175, 3) ∧ decode cX12_newOne 39 = .ok (.ireturn, 1) ∧ decode cX12_newOne 40 = .ok (.aload_n 0, 1) ∧ decode cX12_newOne 41 = .ok (.bipush 80, 2) ∧ decode cX12_newOne 43 = .ok (.aload_n 0, 1) ∧ decode cX12_newOne 44 = .ok (.getfield 7, 3) ∧ decode cX12_newOne 47 = .ok (.sipush 2058, 3) ∧ decode cX12_newOne 50 = .ok (.iaload, 1) ∧ decode cX12_newOne 51 = .ok (.invokevirtual 192, 3) ∧ decode cX12_newOne 54 = .ok (.iconst (-1), 1) := by decide +kernel
theorem e_X12_newOne_3 : decode cX12_newOne 55 = .ok (.if_icmp .ne 39, 3) ∧ decode cX12_newOne 58 = .ok (.aload_n 0, 1) ∧ decode cX12_newOne 59 = .ok (.bipush 86, 2) ∧ decode cX12_newOne 61 = .ok (.aload_n 0, 1) ∧ decode cX12_newOne 62 = .ok (.getfield 7, 3) ∧ decode cX12_newOne 65 = .ok (.sipush 2059, 3) ∧ decode cX12_newOne 68 = .ok (.iaload, 1) ∧ decode cX12_newOne 69 = .ok (.invokevirtual 192, 3) ∧ decode cX12_newOne 72 = .ok (.iconst (-1), 1) ∧ decode cX12_newOne 73 = .ok (.if_icmp .ne 21, 3) := by decide +kernel
theorem e_X12_newOne_4 : decode cX12_newOne 76 = .ok (.aload_n 0, 1) ∧ decode cX12_newOne 77 = .ok (.bipush 94, 2) ∧ decode cX12_newOne 79 = .ok (.aload_n 0, 1) ∧ decode cX12_newOne 80 = .ok (.getfield 7, 3) ∧ decode cX12_newOne 83 = .ok (.sipush 2060, 3) ∧ decode cX12_newOne 86 = .ok (.iaload, 1) ∧ decode cX12_newOne 87 = .ok (.invokevirtual 192, 3) ∧ decode cX12_newOne 90 = .ok (.iconst (-1), 1) ∧ decode cX12_newOne 91 = .ok (.if_icmp .eq 9, 3) ∧ decode cX12_newOne 94 = .ok (.aload_n 0, 1) := by decide +kernel
theorem e_X12_newOne_5 : decode cX12_newOne 95 = .ok (.iconst 3, 1) ∧ decode cX12_newOne 96 = .ok (.invokevirtual 175, 3) ∧ decode cX12_newOne 99 = .ok (.ireturn, 1) ∧ decode cX12_newOne 100 = .ok (.aload_n 0, 1) ∧ decode cX12_newOne 101 = .ok (.getfield 13, 3) ∧ decode cX12_newOne 104 = .ok (.bipush 80, 2) ∧ decode cX12_newOne 106 = .ok (.iload_n 3, 1) ∧ decode cX12_newOne 107 = .ok (.iadd, 1) ∧ decode cX12_newOne 108 = .ok (.aload_n 0, 1) ∧ decode cX12_newOne 109 = .ok (.getfield 7, 3) := by decide +kernel
theorem e_X12_newOne_6 : decode cX12_newOne 112 = .ok (.sipush 2056, 3) ∧ decode cX12_newOne 115 = .ok (.iload_n 1, 1) ∧ decode cX12_newOne 116 = .ok (.iadd, 1) ∧ decode cX12_newOne 117 = .ok (.iaload, 1) ∧ decode cX12_newOne 118 = .ok (.iadd, 1) ∧ decode cX12_newOne 119 = .ok (.aload_n 0, 1) ∧ decode cX12_newOne 120 = .ok (.invokevirtual 182, 3) ∧ decode cX12_newOne 123 = .ok (.lastore, 1) ∧ decode cX12_newOne 124 = .ok (.aload_n 0, 1) ∧ decode cX12_newOne 125 = .ok (.invokevirtual 169, 3) := by decide +kernel
theorem e_X12_newOne_7 : decode cX12_newOne 128 = .ok (.iconst 1, 1) ∧ decode cX12_newOne 129 = .ok (.ireturn, 1) := by decide +kernel
theorem S_X12_newOne {G : Kg} {σ : Kmem} {Q : Int → Kmem → Prop} {l1 l2 l3 : Int}  (h : (0 ≤ 2056 + l1 ∧ 2056 + l1 < 3598) ∧ (rI (σ 1 (2056 + l1))) ∧ (rI l2) ∧ ((σ 1 (2056 + l1) ≠ l2 → Run G WM M_X12_ahead 1 0 0 [vA G 0] σ (fun r4 s5 => Run G WM M_X12_isName 5 0 0 [vA G 0, vA G (-38)] s5 (fun r6 s7 => (rI r6) ∧ ((r6 ≠ 0 → Run G WM M_X12_findHere 2 0 0 [vA G 0, vI 80, vI (s7 1 2058)] s7 (fun r9 s10 => (rI r9) ∧ ((r9 ≠ -1 → Run G WM M_X12_fails 0 0 0 [vA G 0, vI 3] s10 (fun r12 s13 => (r12 = 0 ∨ r12 = 1) ∧ Q r12 s13)) ∧ (r9 = -1 → Run G WM M_X12_findHere 2 0 0 [vA G 0, vI 86, vI (s10 1 2059)] s10 (fun r15 s16 => (rI r15) ∧ ((r15 ≠ -1 → Run G WM M_X12_fails 0 0 0 [vA G 0, vI 3] s16 (fun r18 s19 => (r18 = 0 ∨ r18 = 1) ∧ Q r18 s19)) ∧ (r15 = -1 → Run G WM M_X12_findHere 2 0 0 [vA G 0, vI 94, vI (s16 1 2060)] s16 (fun r21 s22 => (rI r21) ∧ ((r21 = -1 → (0 ≤ 2056 + l1 ∧ 2056 + l1 < 3598) ∧ Run G WM M_X12_nameHere 1 0 0 [vA G 0] s22 (fun r25 s26 => (0 ≤ (80 + l3) + (s22 1 (2056 + l1)) ∧ (80 + l3) + (s22 1 (2056 + l1)) < 120) ∧ Run G WM M_X12_ahead 1 0 0 [vA G 0] (kup s26 2 ((80 + l3) + (s22 1 (2056 + l1))) r25) (fun r28 s29 => Q 1 s29))) ∧ (r21 ≠ -1 → Run G WM M_X12_fails 0 0 0 [vA G 0, vI 3] s22 (fun r30 s31 => (r30 = 0 ∨ r30 = 1) ∧ Q r30 s31))))))))))) ∧ (r6 = 0 → Run G WM M_X12_fails 0 0 0 [vA G 0, vI 2] s7 (fun r33 s34 => (r33 = 0 ∨ r33 = 1) ∧ Q r33 s34)))))) ∧ (σ 1 (2056 + l1) = l2 → Run G WM M_X12_fails 0 0 0 [vA G 0, vI 6] σ (fun r36 s37 => (r36 = 0 ∨ r36 = 1) ∧ Q r36 s37)))) : Run G WM M_X12_newOne 6 0 0 [vA G 0, vI l1, vI l2, vI l3] σ Q := by
  refine Run.of (by decide +kernel) (by show (4 : Nat) ≤ 4; decide) ?_
  show Ex G WM M_X12_newOne 6 0 0 0 [(0, vA G 0), (1, vI l1), (2, vI l2), (3, vI l3)] [] σ Q
  refine R_aload_n e_X12_newOne_0.1 0 rfl ?_
  refine R_getA 12 0 1 e_X12_newOne_0.2.1 f_X12_7 km_0 (fun _ _ => rfl) rm_0_0 (by decide) ?_
  refine R_sipush e_X12_newOne_0.2.2.1 (by decide) ?_
  refine R_iload_n e_X12_newOne_0.2.2.2.1 1 rfl ?_
  refine R_iadd e_X12_newOne_0.2.2.2.2.1 ?_
  obtain ⟨q1, h⟩ := h
  refine R_iald 3598 e_X12_newOne_0.2.2.2.2.2.1 kma_1 q1 ?_
  refine R_iload_n e_X12_newOne_0.2.2.2.2.2.2.1 2 rfl ?_
  obtain ⟨q2, h⟩ := h
  obtain ⟨q3, h⟩ := h
  refine R_icmp_ne 21 e_X12_newOne_0.2.2.2.2.2.2.2.1 (by decide) q2 q3 (fun q => ?_) (fun q => ?_)
  · replace h := h.1 q
    refine R_aload_n e_X12_newOne_1.2.2.1 0 rfl ?_
    refine R_callV (mc := 0) (ms := 0) (mc' := 0) (ms' := 0) (M' := M_X12_ahead) (d' := 1) (as := []) (st := []) 12 0 e_X12_newOne_1.2.2.2.1 (kCVof m_X12_ahead l_X12_169) rfl (by decide) km_0 (by decide) (by decide) rfl rfl (by show (0 : Nat) ≤ 8; decide) ?_
    refine Run.mono h (fun r4 s5 h => ?_)
    refine R_eqs (st2 := []) rfl rfl ?_
    refine R_aload_n e_X12_newOne_1.2.2.2.2.1 0 rfl ?_
    refine R_ldcS (i := 28) (-38) e_X12_newOne_1.2.2.2.2.2.1 rfl rfl ?_
    refine R_callV (mc := 0) (ms := 0) (mc' := 0) (ms' := 0) (M' := M_X12_isName) (d' := 5) (as := [vA G (-38)]) (st := []) 12 1 e_X12_newOne_1.2.2.2.2.2.2.1 (kCVof m_X12_isName l_X12_188) rfl (by decide) km_0 (by decide) (by decide) rfl rfl (by show (0 : Nat) ≤ 8; decide) ?_
    refine Run.mono h (fun r6 s7 h => ?_)
    refine R_eqs (st2 := [vI r6]) rfl rfl ?_
    obtain ⟨q8, h⟩ := h
    refine R_if_ne 40 e_X12_newOne_1.2.2.2.2.2.2.2.1 (by decide) q8  (fun q => ?_) (fun q => ?_)
    · replace h := h.1 q
      refine R_aload_n e_X12_newOne_2.2.2.1 0 rfl ?_
      refine R_bipush e_X12_newOne_2.2.2.2.1 (by decide) ?_
      refine R_aload_n e_X12_newOne_2.2.2.2.2.1 0 rfl ?_
      refine R_getA 12 0 1 e_X12_newOne_2.2.2.2.2.2.1 f_X12_7 km_0 (fun _ _ => rfl) rm_0_0 (by decide) ?_
      refine R_sipush e_X12_newOne_2.2.2.2.2.2.2.1 (by decide) ?_
      refine R_iald 3598 e_X12_newOne_2.2.2.2.2.2.2.2.1 kma_1 (by decide) ?_
      refine R_callV (mc := 0) (ms := 0) (mc' := 0) (ms' := 0) (M' := M_X12_findHere) (d' := 2) (as := [vI 80, vI (s7 1 2058)]) (st := []) 12 2 e_X12_newOne_2.2.2.2.2.2.2.2.2.1 (kCVof m_X12_findHere l_X12_192) rfl (by decide) km_0 (by decide) (by decide) rfl rfl (by show (0 : Nat) ≤ 8; decide) ?_
      refine Run.mono h (fun r9 s10 h => ?_)
      refine R_eqs (st2 := [vI r9]) rfl rfl ?_
      refine R_iconst e_X12_newOne_2.2.2.2.2.2.2.2.2.2 ?_
      obtain ⟨q11, h⟩ := h
      refine R_icmp_ne 94 e_X12_newOne_3.1 (by decide) q11 (by decide) (fun q => ?_) (fun q => ?_)
      · replace h := h.1 q
        refine R_aload_n e_X12_newOne_4.2.2.2.2.2.2.2.2.2 0 rfl ?_
        refine R_iconst e_X12_newOne_5.1 ?_
        refine R_callV (mc := 0) (ms := 0) (mc' := 0) (ms' := 0) (M' := M_X12_fails) (d' := 0) (as := [vI 3]) (st := []) 12 1 e_X12_newOne_5.2.1 (kCVof m_X12_fails l_X12_175) rfl (by decide) km_0 (by decide) (by decide) rfl rfl (by show (0 : Nat) ≤ 8; decide) ?_
        refine Run.mono h (fun r12 s13 h => ?_)
        refine R_eqs (st2 := [vI r12]) rfl rfl ?_
        obtain ⟨q14, h⟩ := h
        exact R_zreturn e_X12_newOne_5.2.2.1 rfl q14 h
      · replace h := h.2 q
        refine R_aload_n e_X12_newOne_3.2.1 0 rfl ?_
        refine R_bipush e_X12_newOne_3.2.2.1 (by decide) ?_
        refine R_aload_n e_X12_newOne_3.2.2.2.1 0 rfl ?_
        refine R_getA 12 0 1 e_X12_newOne_3.2.2.2.2.1 f_X12_7 km_0 (fun _ _ => rfl) rm_0_0 (by decide) ?_
        refine R_sipush e_X12_newOne_3.2.2.2.2.2.1 (by decide) ?_
        refine R_iald 3598 e_X12_newOne_3.2.2.2.2.2.2.1 kma_1 (by decide) ?_
        refine R_callV (mc := 0) (ms := 0) (mc' := 0) (ms' := 0) (M' := M_X12_findHere) (d' := 2) (as := [vI 86, vI (s10 1 2059)]) (st := []) 12 2 e_X12_newOne_3.2.2.2.2.2.2.2.1 (kCVof m_X12_findHere l_X12_192) rfl (by decide) km_0 (by decide) (by decide) rfl rfl (by show (0 : Nat) ≤ 8; decide) ?_
        refine Run.mono h (fun r15 s16 h => ?_)
        refine R_eqs (st2 := [vI r15]) rfl rfl ?_
        refine R_iconst e_X12_newOne_3.2.2.2.2.2.2.2.2.1 ?_
        obtain ⟨q17, h⟩ := h
        refine R_icmp_ne 94 e_X12_newOne_3.2.2.2.2.2.2.2.2.2 (by decide) q17 (by decide) (fun q => ?_) (fun q => ?_)
        · replace h := h.1 q
          refine R_aload_n e_X12_newOne_4.2.2.2.2.2.2.2.2.2 0 rfl ?_
          refine R_iconst e_X12_newOne_5.1 ?_
          refine R_callV (mc := 0) (ms := 0) (mc' := 0) (ms' := 0) (M' := M_X12_fails) (d' := 0) (as := [vI 3]) (st := []) 12 1 e_X12_newOne_5.2.1 (kCVof m_X12_fails l_X12_175) rfl (by decide) km_0 (by decide) (by decide) rfl rfl (by show (0 : Nat) ≤ 8; decide) ?_
          refine Run.mono h (fun r18 s19 h => ?_)
          refine R_eqs (st2 := [vI r18]) rfl rfl ?_
          obtain ⟨q20, h⟩ := h
          exact R_zreturn e_X12_newOne_5.2.2.1 rfl q20 h
        · replace h := h.2 q
          refine R_aload_n e_X12_newOne_4.1 0 rfl ?_
          refine R_bipush e_X12_newOne_4.2.1 (by decide) ?_
          refine R_aload_n e_X12_newOne_4.2.2.1 0 rfl ?_
          refine R_getA 12 0 1 e_X12_newOne_4.2.2.2.1 f_X12_7 km_0 (fun _ _ => rfl) rm_0_0 (by decide) ?_
          refine R_sipush e_X12_newOne_4.2.2.2.2.1 (by decide) ?_
          refine R_iald 3598 e_X12_newOne_4.2.2.2.2.2.1 kma_1 (by decide) ?_
          refine R_callV (mc := 0) (ms := 0) (mc' := 0) (ms' := 0) (M' := M_X12_findHere) (d' := 2) (as := [vI 94, vI (s16 1 2060)]) (st := []) 12 2 e_X12_newOne_4.2.2.2.2.2.2.1 (kCVof m_X12_findHere l_X12_192) rfl (by decide) km_0 (by decide) (by decide) rfl rfl (by show (0 : Nat) ≤ 8; decide) ?_
          refine Run.mono h (fun r21 s22 h => ?_)
          refine R_eqs (st2 := [vI r21]) rfl rfl ?_
          refine R_iconst e_X12_newOne_4.2.2.2.2.2.2.2.1 ?_
          obtain ⟨q23, h⟩ := h
          refine R_icmp_eq 100 e_X12_newOne_4.2.2.2.2.2.2.2.2.1 (by decide) q23 (by decide) (fun q => ?_) (fun q => ?_)
          · replace h := h.1 q
            refine R_aload_n e_X12_newOne_5.2.2.2.1 0 rfl ?_
            refine R_getA 12 1 2 e_X12_newOne_5.2.2.2.2.1 f_X12_13 km_0 (fun _ _ => rfl) rm_0_1 (by decide) ?_
            refine R_bipush e_X12_newOne_5.2.2.2.2.2.1 (by decide) ?_
            refine R_iload_n e_X12_newOne_5.2.2.2.2.2.2.1 3 rfl ?_
            refine R_iadd e_X12_newOne_5.2.2.2.2.2.2.2.1 ?_
            refine R_aload_n e_X12_newOne_5.2.2.2.2.2.2.2.2.1 0 rfl ?_
            refine R_getA 12 0 1 e_X12_newOne_5.2.2.2.2.2.2.2.2.2 f_X12_7 km_0 (fun _ _ => rfl) rm_0_0 (by decide) ?_
            refine R_sipush e_X12_newOne_6.1 (by decide) ?_
            refine R_iload_n e_X12_newOne_6.2.1 1 rfl ?_
            refine R_iadd e_X12_newOne_6.2.2.1 ?_
            obtain ⟨q24, h⟩ := h
            refine R_iald 3598 e_X12_newOne_6.2.2.2.1 kma_1 q24 ?_
            refine R_iadd e_X12_newOne_6.2.2.2.2.1 ?_
            refine R_aload_n e_X12_newOne_6.2.2.2.2.2.1 0 rfl ?_
            refine R_callV (mc := 0) (ms := 0) (mc' := 0) (ms' := 0) (M' := M_X12_nameHere) (d' := 1) (as := []) (st := [vI ((80 + l3) + (s22 1 (2056 + l1))), vA G 2]) 12 0 e_X12_newOne_6.2.2.2.2.2.2.1 (kCVof m_X12_nameHere l_X12_182) rfl (by decide) km_0 (by decide) (by decide) rfl rfl (by show (2 : Nat) ≤ 8; decide) ?_
            refine Run.mono h (fun r25 s26 h => ?_)
            refine R_eqs (st2 := [vL r25, vI ((80 + l3) + (s22 1 (2056 + l1))), vA G 2]) rfl rfl ?_
            obtain ⟨q27, h⟩ := h
            refine R_last 120 WM_ok e_X12_newOne_6.2.2.2.2.2.2.2.1 kma_2 q27 ?_
            refine R_aload_n e_X12_newOne_6.2.2.2.2.2.2.2.2.1 0 rfl ?_
            refine R_callV (mc := 0) (ms := 0) (mc' := 0) (ms' := 0) (M' := M_X12_ahead) (d' := 1) (as := []) (st := []) 12 0 e_X12_newOne_6.2.2.2.2.2.2.2.2.2 (kCVof m_X12_ahead l_X12_169) rfl (by decide) km_0 (by decide) (by decide) rfl rfl (by show (0 : Nat) ≤ 8; decide) ?_
            refine Run.mono h (fun r28 s29 h => ?_)
            refine R_eqs (st2 := []) rfl rfl ?_
            refine R_iconst e_X12_newOne_7.1 ?_
            exact R_zreturn e_X12_newOne_7.2 rfl (Or.inr rfl) h
          · replace h := h.2 q
            refine R_aload_n e_X12_newOne_4.2.2.2.2.2.2.2.2.2 0 rfl ?_
            refine R_iconst e_X12_newOne_5.1 ?_
            refine R_callV (mc := 0) (ms := 0) (mc' := 0) (ms' := 0) (M' := M_X12_fails) (d' := 0) (as := [vI 3]) (st := []) 12 1 e_X12_newOne_5.2.1 (kCVof m_X12_fails l_X12_175) rfl (by decide) km_0 (by decide) (by decide) rfl rfl (by show (0 : Nat) ≤ 8; decide) ?_
            refine Run.mono h (fun r30 s31 h => ?_)
            refine R_eqs (st2 := [vI r30]) rfl rfl ?_
            obtain ⟨q32, h⟩ := h
            exact R_zreturn e_X12_newOne_5.2.2.1 rfl q32 h
    · replace h := h.2 q
      refine R_aload_n e_X12_newOne_1.2.2.2.2.2.2.2.2.1 0 rfl ?_
      refine R_iconst e_X12_newOne_1.2.2.2.2.2.2.2.2.2 ?_
      refine R_callV (mc := 0) (ms := 0) (mc' := 0) (ms' := 0) (M' := M_X12_fails) (d' := 0) (as := [vI 2]) (st := []) 12 1 e_X12_newOne_2.1 (kCVof m_X12_fails l_X12_175) rfl (by decide) km_0 (by decide) (by decide) rfl rfl (by show (0 : Nat) ≤ 8; decide) ?_
      refine Run.mono h (fun r33 s34 h => ?_)
      refine R_eqs (st2 := [vI r33]) rfl rfl ?_
      obtain ⟨q35, h⟩ := h
      exact R_zreturn e_X12_newOne_2.2.1 rfl q35 h
  · replace h := h.2 q
    refine R_aload_n e_X12_newOne_0.2.2.2.2.2.2.2.2.1 0 rfl ?_
    refine R_bipush e_X12_newOne_0.2.2.2.2.2.2.2.2.2 (by decide) ?_
    refine R_callV (mc := 0) (ms := 0) (mc' := 0) (ms' := 0) (M' := M_X12_fails) (d' := 0) (as := [vI 6]) (st := []) 12 1 e_X12_newOne_1.1 (kCVof m_X12_fails l_X12_175) rfl (by decide) km_0 (by decide) (by decide) rfl rfl (by show (0 : Nat) ≤ 8; decide) ?_
    refine Run.mono h (fun r36 s37 h => ?_)
    refine R_eqs (st2 := [vI r36]) rfl rfl ?_
    obtain ⟨q38, h⟩ := h
    exact R_zreturn e_X12_newOne_1.2.1 rfl q38 h
/-! KiteLandModel.oldOne(III)Z -/
theorem e_X12_oldOne_0 : decode cX12_oldOne 0 = .ok (.aload_n 0, 1) ∧ decode cX12_oldOne 1 = .ok (.ldc 186, 2) ∧ decode cX12_oldOne 3 = .ok (.invokevirtual 188, 3) ∧ decode cX12_oldOne 6 = .ok (.ifCond .ne 9, 3) ∧ decode cX12_oldOne 9 = .ok (.aload_n 0, 1) ∧ decode cX12_oldOne 10 = .ok (.iconst 2, 1) ∧ decode cX12_oldOne 11 = .ok (.invokevirtual 175, 3) ∧ decode cX12_oldOne 14 = .ok (.ireturn, 1) ∧ decode cX12_oldOne 15 = .ok (.aload_n 0, 1) ∧ decode cX12_oldOne 16 = .ok (.getfield 7, 3) := by decide +kernel
theorem e_X12_oldOne_1 : decode cX12_oldOne 19 = .ok (.iload_n 3, 1) ∧ decode cX12_oldOne 20 = .ok (.aload_n 0, 1) ∧ decode cX12_oldOne 21 = .ok (.iload_n 1, 1) ∧ decode cX12_oldOne 22 = .ok (.iload_n 2, 1) ∧ decode cX12_oldOne 23 = .ok (.invokevirtual 192, 3) ∧ decode cX12_oldOne 26 = .ok (.iastore, 1) ∧ decode cX12_oldOne 27 = .ok (.aload_n 0, 1) ∧ decode cX12_oldOne 28 = .ok (.getfield 7, 3) ∧ decode cX12_oldOne 31 = .ok (.iload_n 3, 1) ∧ decode cX12_oldOne 32 = .ok (.iaload, 1) := by decide +kernel
theorem e_X12_oldOne_2 : decode cX12_oldOne 33 = .ok (.iconst (-1), 1) ∧ decode cX12_oldOne 34 = .ok (.if_icmp .ne 9, 3) ∧ decode cX12_oldOne 37 = .ok (.aload_n 0, 1) ∧ decode cX12_oldOne 38 = .ok (.iconst 3, 1) ∧ decode cX12_oldOne 39 = .ok (.invokevirtual 175, 3) ∧ decode cX12_oldOne 42 = .ok (.ireturn, 1) ∧ decode cX12_oldOne 43 = .ok (.aload_n 0, 1) ∧ decode cX12_oldOne 44 = .ok (.invokevirtual 169, 3) ∧ decode cX12_oldOne 47 = .ok (.iconst 1, 1) ∧ decode cX12_oldOne 48 = .ok (.ireturn, 1) := by decide +kernel
theorem S_X12_oldOne {G : Kg} {σ : Kmem} {Q : Int → Kmem → Prop} {l1 l2 l3 : Int}  (h : Run G WM M_X12_isName 5 0 0 [vA G 0, vA G (-38)] σ (fun r1 s2 => (rI r1) ∧ ((r1 ≠ 0 → Run G WM M_X12_findHere 2 0 0 [vA G 0, vI l1, vI l2] s2 (fun r4 s5 => (0 ≤ l3 ∧ l3 < 3598) ∧ (0 ≤ l3 ∧ l3 < 3598) ∧ (rI ((kup s5 1 l3 r4) 1 l3)) ∧ (((kup s5 1 l3 r4) 1 l3 ≠ -1 → Run G WM M_X12_ahead 1 0 0 [vA G 0] (kup s5 1 l3 r4) (fun r9 s10 => Q 1 s10)) ∧ ((kup s5 1 l3 r4) 1 l3 = -1 → Run G WM M_X12_fails 0 0 0 [vA G 0, vI 3] (kup s5 1 l3 r4) (fun r11 s12 => (r11 = 0 ∨ r11 = 1) ∧ Q r11 s12))))) ∧ (r1 = 0 → Run G WM M_X12_fails 0 0 0 [vA G 0, vI 2] s2 (fun r14 s15 => (r14 = 0 ∨ r14 = 1) ∧ Q r14 s15))))) : Run G WM M_X12_oldOne 6 0 0 [vA G 0, vI l1, vI l2, vI l3] σ Q := by
  refine Run.of (by decide +kernel) (by show (4 : Nat) ≤ 4; decide) ?_
  show Ex G WM M_X12_oldOne 6 0 0 0 [(0, vA G 0), (1, vI l1), (2, vI l2), (3, vI l3)] [] σ Q
  refine R_aload_n e_X12_oldOne_0.1 0 rfl ?_
  refine R_ldcS (i := 28) (-38) e_X12_oldOne_0.2.1 rfl rfl ?_
  refine R_callV (mc := 0) (ms := 0) (mc' := 0) (ms' := 0) (M' := M_X12_isName) (d' := 5) (as := [vA G (-38)]) (st := []) 12 1 e_X12_oldOne_0.2.2.1 (kCVof m_X12_isName l_X12_188) rfl (by decide) km_0 (by decide) (by decide) rfl rfl (by show (0 : Nat) ≤ 8; decide) ?_
  refine Run.mono h (fun r1 s2 h => ?_)
  refine R_eqs (st2 := [vI r1]) rfl rfl ?_
  obtain ⟨q3, h⟩ := h
  refine R_if_ne 15 e_X12_oldOne_0.2.2.2.1 (by decide) q3  (fun q => ?_) (fun q => ?_)
  · replace h := h.1 q
    refine R_aload_n e_X12_oldOne_0.2.2.2.2.2.2.2.2.1 0 rfl ?_
    refine R_getA 12 0 1 e_X12_oldOne_0.2.2.2.2.2.2.2.2.2 f_X12_7 km_0 (fun _ _ => rfl) rm_0_0 (by decide) ?_
    refine R_iload_n e_X12_oldOne_1.1 3 rfl ?_
    refine R_aload_n e_X12_oldOne_1.2.1 0 rfl ?_
    refine R_iload_n e_X12_oldOne_1.2.2.1 1 rfl ?_
    refine R_iload_n e_X12_oldOne_1.2.2.2.1 2 rfl ?_
    refine R_callV (mc := 0) (ms := 0) (mc' := 0) (ms' := 0) (M' := M_X12_findHere) (d' := 2) (as := [vI l1, vI l2]) (st := [vI l3, vA G 1]) 12 2 e_X12_oldOne_1.2.2.2.2.1 (kCVof m_X12_findHere l_X12_192) rfl (by decide) km_0 (by decide) (by decide) rfl rfl (by show (2 : Nat) ≤ 8; decide) ?_
    refine Run.mono h (fun r4 s5 h => ?_)
    refine R_eqs (st2 := [vI r4, vI l3, vA G 1]) rfl rfl ?_
    obtain ⟨q6, h⟩ := h
    refine R_iast 3598 WM_ok e_X12_oldOne_1.2.2.2.2.2.1 kma_1 q6 ?_
    refine R_aload_n e_X12_oldOne_1.2.2.2.2.2.2.1 0 rfl ?_
    refine R_getA 12 0 1 e_X12_oldOne_1.2.2.2.2.2.2.2.1 f_X12_7 km_0 (fun _ _ => rfl) rm_0_0 (by decide) ?_
    refine R_iload_n e_X12_oldOne_1.2.2.2.2.2.2.2.2.1 3 rfl ?_
    obtain ⟨q7, h⟩ := h
    refine R_iald 3598 e_X12_oldOne_1.2.2.2.2.2.2.2.2.2 kma_1 q7 ?_
    refine R_iconst e_X12_oldOne_2.1 ?_
    obtain ⟨q8, h⟩ := h
    refine R_icmp_ne 43 e_X12_oldOne_2.2.1 (by decide) q8 (by decide) (fun q => ?_) (fun q => ?_)
    · replace h := h.1 q
      refine R_aload_n e_X12_oldOne_2.2.2.2.2.2.2.1 0 rfl ?_
      refine R_callV (mc := 0) (ms := 0) (mc' := 0) (ms' := 0) (M' := M_X12_ahead) (d' := 1) (as := []) (st := []) 12 0 e_X12_oldOne_2.2.2.2.2.2.2.2.1 (kCVof m_X12_ahead l_X12_169) rfl (by decide) km_0 (by decide) (by decide) rfl rfl (by show (0 : Nat) ≤ 8; decide) ?_
      refine Run.mono h (fun r9 s10 h => ?_)
      refine R_eqs (st2 := []) rfl rfl ?_
      refine R_iconst e_X12_oldOne_2.2.2.2.2.2.2.2.2.1 ?_
      exact R_zreturn e_X12_oldOne_2.2.2.2.2.2.2.2.2.2 rfl (Or.inr rfl) h
    · replace h := h.2 q
      refine R_aload_n e_X12_oldOne_2.2.2.1 0 rfl ?_
      refine R_iconst e_X12_oldOne_2.2.2.2.1 ?_
      refine R_callV (mc := 0) (ms := 0) (mc' := 0) (ms' := 0) (M' := M_X12_fails) (d' := 0) (as := [vI 3]) (st := []) 12 1 e_X12_oldOne_2.2.2.2.2.1 (kCVof m_X12_fails l_X12_175) rfl (by decide) km_0 (by decide) (by decide) rfl rfl (by show (0 : Nat) ≤ 8; decide) ?_
      refine Run.mono h (fun r11 s12 h => ?_)
      refine R_eqs (st2 := [vI r11]) rfl rfl ?_
      obtain ⟨q13, h⟩ := h
      exact R_zreturn e_X12_oldOne_2.2.2.2.2.2.1 rfl q13 h
  · replace h := h.2 q
    refine R_aload_n e_X12_oldOne_0.2.2.2.2.1 0 rfl ?_
    refine R_iconst e_X12_oldOne_0.2.2.2.2.2.1 ?_
    refine R_callV (mc := 0) (ms := 0) (mc' := 0) (ms' := 0) (M' := M_X12_fails) (d' := 0) (as := [vI 2]) (st := []) 12 1 e_X12_oldOne_0.2.2.2.2.2.2.1 (kCVof m_X12_fails l_X12_175) rfl (by decide) km_0 (by decide) (by decide) rfl rfl (by show (0 : Nat) ≤ 8; decide) ?_
    refine Run.mono h (fun r14 s15 h => ?_)
    refine R_eqs (st2 := [vI r14]) rfl rfl ?_
    obtain ⟨q16, h⟩ := h
    exact R_zreturn e_X12_oldOne_0.2.2.2.2.2.2.2.1 rfl q16 h
/-! KiteLandModel.fieldTo(I)Z -/
theorem e_X12_fieldTo_0 : decode cX12_fieldTo 0 = .ok (.aload_n 0, 1) ∧ decode cX12_fieldTo 1 = .ok (.ldc 186, 2) ∧ decode cX12_fieldTo 3 = .ok (.bipush 8, 2) ∧ decode cX12_fieldTo 5 = .ok (.invokevirtual 195, 3) ∧ decode cX12_fieldTo 8 = .ok (.ifCond .eq 47, 3) ∧ decode cX12_fieldTo 11 = .ok (.aload_n 0, 1) ∧ decode cX12_fieldTo 12 = .ok (.iload_n 1, 1) ∧ decode cX12_fieldTo 13 = .ok (.iconst 0, 1) ∧ decode cX12_fieldTo 14 = .ok (.aload_n 0, 1) ∧ decode cX12_fieldTo 15 = .ok (.getfield 7, 3) := by decide +kernel
theorem e_X12_fieldTo_1 : decode cX12_fieldTo 18 = .ok (.sipush 2056, 3) ∧ decode cX12_fieldTo 21 = .ok (.iaload, 1) ∧ decode cX12_fieldTo 22 = .ok (.iconst 1, 1) ∧ decode cX12_fieldTo 23 = .ok (.isub, 1) ∧ decode cX12_fieldTo 24 = .ok (.invokevirtual 199, 3) ∧ decode cX12_fieldTo 27 = .ok (.ifCond .eq 28, 3) ∧ decode cX12_fieldTo 30 = .ok (.aload_n 0, 1) ∧ decode cX12_fieldTo 31 = .ok (.iload_n 1, 1) ∧ decode cX12_fieldTo 32 = .ok (.iconst 1, 1) ∧ decode cX12_fieldTo 33 = .ok (.iadd, 1) := by decide +kernel
theorem e_X12_fieldTo_2 : decode cX12_fieldTo 34 = .ok (.iconst 0, 1) ∧ decode cX12_fieldTo 35 = .ok (.aload_n 0, 1) ∧ decode cX12_fieldTo 36 = .ok (.getfield 7, 3) ∧ decode cX12_fieldTo 39 = .ok (.sipush 2057, 3) ∧ decode cX12_fieldTo 42 = .ok (.iaload, 1) ∧ decode cX12_fieldTo 43 = .ok (.iconst 1, 1) ∧ decode cX12_fieldTo 44 = .ok (.isub, 1) ∧ decode cX12_fieldTo 45 = .ok (.invokevirtual 199, 3) ∧ decode cX12_fieldTo 48 = .ok (.ifCond .eq 7, 3) ∧ decode cX12_fieldTo 51 = .ok (.iconst 1, 1) := by decide +kernel
theorem e_X12_fieldTo_3 : decode cX12_fieldTo 52 = .ok (.goto 4, 3) ∧ decode cX12_fieldTo 55 = .ok (.iconst 0, 1) ∧ decode cX12_fieldTo 56 = .ok (.ireturn, 1) := by decide +kernel
theorem S_X12_fieldTo {G : Kg} {σ : Kmem} {Q : Int → Kmem → Prop} {l1 : Int}  (h : Run G WM M_X12_wantWord 5 0 0 [vA G 0, vA G (-38), vI 8] σ (fun r1 s2 => (rI r1) ∧ ((r1 = 0 → Q 0 s2) ∧ (r1 ≠ 0 → Run G WM M_X12_number 2 0 0 [vA G 0, vI l1, vI 0, vI ((s2 1 2056) - 1)] s2 (fun r4 s5 => (rI r4) ∧ ((r4 = 0 → Q 0 s5) ∧ (r4 ≠ 0 → Run G WM M_X12_number 2 0 0 [vA G 0, vI (l1 + 1), vI 0, vI ((s5 1 2057) - 1)] s5 (fun r7 s8 => (rI r7) ∧ ((r7 = 0 → Q 0 s8) ∧ (r7 ≠ 0 → Q 1 s8)))))))))) : Run G WM M_X12_fieldTo 6 0 0 [vA G 0, vI l1] σ Q := by
  refine Run.of (by decide +kernel) (by show (2 : Nat) ≤ 2; decide) ?_
  show Ex G WM M_X12_fieldTo 6 0 0 0 [(0, vA G 0), (1, vI l1)] [] σ Q
  refine R_aload_n e_X12_fieldTo_0.1 0 rfl ?_
  refine R_ldcS (i := 28) (-38) e_X12_fieldTo_0.2.1 rfl rfl ?_
  refine R_bipush e_X12_fieldTo_0.2.2.1 (by decide) ?_
  refine R_callV (mc := 0) (ms := 0) (mc' := 0) (ms' := 0) (M' := M_X12_wantWord) (d' := 5) (as := [vA G (-38), vI 8]) (st := []) 12 2 e_X12_fieldTo_0.2.2.2.1 (kCVof m_X12_wantWord l_X12_195) rfl (by decide) km_0 (by decide) (by decide) rfl rfl (by show (0 : Nat) ≤ 8; decide) ?_
  refine Run.mono h (fun r1 s2 h => ?_)
  refine R_eqs (st2 := [vI r1]) rfl rfl ?_
  obtain ⟨q3, h⟩ := h
  refine R_if_eq 55 e_X12_fieldTo_0.2.2.2.2.1 (by decide) q3  (fun q => ?_) (fun q => ?_)
  · replace h := h.1 q
    refine R_iconst e_X12_fieldTo_3.2.1 ?_
    exact R_zreturn e_X12_fieldTo_3.2.2 rfl (Or.inl rfl) h
  · replace h := h.2 q
    refine R_aload_n e_X12_fieldTo_0.2.2.2.2.2.1 0 rfl ?_
    refine R_iload_n e_X12_fieldTo_0.2.2.2.2.2.2.1 1 rfl ?_
    refine R_iconst e_X12_fieldTo_0.2.2.2.2.2.2.2.1 ?_
    refine R_aload_n e_X12_fieldTo_0.2.2.2.2.2.2.2.2.1 0 rfl ?_
    refine R_getA 12 0 1 e_X12_fieldTo_0.2.2.2.2.2.2.2.2.2 f_X12_7 km_0 (fun _ _ => rfl) rm_0_0 (by decide) ?_
    refine R_sipush e_X12_fieldTo_1.1 (by decide) ?_
    refine R_iald 3598 e_X12_fieldTo_1.2.1 kma_1 (by decide) ?_
    refine R_iconst e_X12_fieldTo_1.2.2.1 ?_
    refine R_isub e_X12_fieldTo_1.2.2.2.1 ?_
    refine R_callV (mc := 0) (ms := 0) (mc' := 0) (ms' := 0) (M' := M_X12_number) (d' := 2) (as := [vI l1, vI 0, vI ((s2 1 2056) - 1)]) (st := []) 12 3 e_X12_fieldTo_1.2.2.2.2.1 (kCVof m_X12_number l_X12_199) rfl (by decide) km_0 (by decide) (by decide) rfl rfl (by show (0 : Nat) ≤ 8; decide) ?_
    refine Run.mono h (fun r4 s5 h => ?_)
    refine R_eqs (st2 := [vI r4]) rfl rfl ?_
    obtain ⟨q6, h⟩ := h
    refine R_if_eq 55 e_X12_fieldTo_1.2.2.2.2.2.1 (by decide) q6  (fun q => ?_) (fun q => ?_)
    · replace h := h.1 q
      refine R_iconst e_X12_fieldTo_3.2.1 ?_
      exact R_zreturn e_X12_fieldTo_3.2.2 rfl (Or.inl rfl) h
    · replace h := h.2 q
      refine R_aload_n e_X12_fieldTo_1.2.2.2.2.2.2.1 0 rfl ?_
      refine R_iload_n e_X12_fieldTo_1.2.2.2.2.2.2.2.1 1 rfl ?_
      refine R_iconst e_X12_fieldTo_1.2.2.2.2.2.2.2.2.1 ?_
      refine R_iadd e_X12_fieldTo_1.2.2.2.2.2.2.2.2.2 ?_
      refine R_iconst e_X12_fieldTo_2.1 ?_
      refine R_aload_n e_X12_fieldTo_2.2.1 0 rfl ?_
      refine R_getA 12 0 1 e_X12_fieldTo_2.2.2.1 f_X12_7 km_0 (fun _ _ => rfl) rm_0_0 (by decide) ?_
      refine R_sipush e_X12_fieldTo_2.2.2.2.1 (by decide) ?_
      refine R_iald 3598 e_X12_fieldTo_2.2.2.2.2.1 kma_1 (by decide) ?_
      refine R_iconst e_X12_fieldTo_2.2.2.2.2.2.1 ?_
      refine R_isub e_X12_fieldTo_2.2.2.2.2.2.2.1 ?_
      refine R_callV (mc := 0) (ms := 0) (mc' := 0) (ms' := 0) (M' := M_X12_number) (d' := 2) (as := [vI (l1 + 1), vI 0, vI ((s5 1 2057) - 1)]) (st := []) 12 3 e_X12_fieldTo_2.2.2.2.2.2.2.2.1 (kCVof m_X12_number l_X12_199) rfl (by decide) km_0 (by decide) (by decide) rfl rfl (by show (0 : Nat) ≤ 8; decide) ?_
      refine Run.mono h (fun r7 s8 h => ?_)
      refine R_eqs (st2 := [vI r7]) rfl rfl ?_
      obtain ⟨q9, h⟩ := h
      refine R_if_eq 55 e_X12_fieldTo_2.2.2.2.2.2.2.2.2.1 (by decide) q9  (fun q => ?_) (fun q => ?_)
      · replace h := h.1 q
        refine R_iconst e_X12_fieldTo_3.2.1 ?_
        exact R_zreturn e_X12_fieldTo_3.2.2 rfl (Or.inl rfl) h
      · replace h := h.2 q
        refine R_iconst e_X12_fieldTo_2.2.2.2.2.2.2.2.2.2 ?_
        refine R_goto 56 e_X12_fieldTo_3.1 (by decide) ?_
        exact R_zreturn e_X12_fieldTo_3.2.2 rfl (Or.inr rfl) h
/-! KiteLandModel.aWind()Z -/
theorem e_X12_aWind_0 : decode cX12_aWind 0 = .ok (.sipush 2566, 3) ∧ decode cX12_aWind 3 = .ok (.istore_n 1, 1) ∧ decode cX12_aWind 4 = .ok (.aload_n 0, 1) ∧ decode cX12_aWind 5 = .ok (.invokevirtual 169, 3) ∧ decode cX12_aWind 8 = .ok (.aload_n 0, 1) ∧ decode cX12_aWind 9 = .ok (.iload_n 1, 1) ∧ decode cX12_aWind 10 = .ok (.iconst 0, 1) ∧ decode cX12_aWind 11 = .ok (.bipush 11, 2) ∧ decode cX12_aWind 13 = .ok (.invokevirtual 199, 3) ∧ decode cX12_aWind 16 = .ok (.ifCond .ne 5, 3) := by decide +kernel
theorem e_X12_aWind_1 : decode cX12_aWind 19 = .ok (.iconst 0, 1) ∧ decode cX12_aWind 20 = .ok (.ireturn, 1) ∧ decode cX12_aWind 21 = .ok (.sipush 2066, 3) ∧ decode cX12_aWind 24 = .ok (.iconst 2, 1) ∧ decode cX12_aWind 25 = .ok (.aload_n 0, 1) ∧ decode cX12_aWind 26 = .ok (.getfield 7, 3) ∧ decode cX12_aWind 29 = .ok (.iload_n 1, 1) ∧ decode cX12_aWind 30 = .ok (.iaload, 1) ∧ decode cX12_aWind 31 = .ok (.imul, 1) ∧ decode cX12_aWind 32 = .ok (.iadd, 1) := by decide +kernel
theorem e_X12_aWind_2 : decode cX12_aWind 33 = .ok (.istore_n 2, 1) ∧ decode cX12_aWind 34 = .ok (.aload_n 0, 1) ∧ decode cX12_aWind 35 = .ok (.iload_n 2, 1) ∧ decode cX12_aWind 36 = .ok (.iconst 0, 1) ∧ decode cX12_aWind 37 = .ok (.bipush 7, 2) ∧ decode cX12_aWind 39 = .ok (.invokevirtual 199, 3) ∧ decode cX12_aWind 42 = .ok (.ifCond .eq 19, 3) ∧ decode cX12_aWind 45 = .ok (.aload_n 0, 1) ∧ decode cX12_aWind 46 = .ok (.iload_n 2, 1) ∧ decode cX12_aWind 47 = .ok (.iconst 1, 1) := by decide +kernel
theorem e_X12_aWind_3 : decode cX12_aWind 48 = .ok (.iadd, 1) ∧ decode cX12_aWind 49 = .ok (.iconst 0, 1) ∧ decode cX12_aWind 50 = .ok (.iconst 3, 1) ∧ decode cX12_aWind 51 = .ok (.invokevirtual 199, 3) ∧ decode cX12_aWind 54 = .ok (.ifCond .eq 7, 3) ∧ decode cX12_aWind 57 = .ok (.iconst 1, 1) ∧ decode cX12_aWind 58 = .ok (.goto 4, 3) ∧ decode cX12_aWind 61 = .ok (.iconst 0, 1) ∧ decode cX12_aWind 62 = .ok (.ireturn, 1) := by decide +kernel
theorem S_X12_aWind {G : Kg} {σ : Kmem} {Q : Int → Kmem → Prop}  (h : Run G WM M_X12_ahead 1 0 0 [vA G 0] σ (fun r1 s2 => Run G WM M_X12_number 2 0 0 [vA G 0, vI 2566, vI 0, vI 11] s2 (fun r3 s4 => (rI r3) ∧ ((r3 ≠ 0 → Run G WM M_X12_number 2 0 0 [vA G 0, vI (2066 + (2 * (s4 1 2566))), vI 0, vI 7] s4 (fun r6 s7 => (rI r6) ∧ ((r6 = 0 → Q 0 s7) ∧ (r6 ≠ 0 → Run G WM M_X12_number 2 0 0 [vA G 0, vI ((2066 + (2 * (s4 1 2566))) + 1), vI 0, vI 3] s7 (fun r9 s10 => (rI r9) ∧ ((r9 = 0 → Q 0 s10) ∧ (r9 ≠ 0 → Q 1 s10))))))) ∧ (r3 = 0 → Q 0 s4))))) : Run G WM M_X12_aWind 3 0 0 [vA G 0] σ Q := by
  refine Run.of (by decide +kernel) (by show (1 : Nat) ≤ 3; decide) ?_
  show Ex G WM M_X12_aWind 3 0 0 0 [(0, vA G 0)] [] σ Q
  refine R_sipush e_X12_aWind_0.1 (by decide) ?_
  refine R_istore_n (ls2 := [(1, vI 2566), (0, vA G 0)]) e_X12_aWind_0.2.1 (by decide) rfl ?_
  refine R_aload_n e_X12_aWind_0.2.2.1 1 rfl ?_
  refine R_callV (mc := 0) (ms := 0) (mc' := 0) (ms' := 0) (M' := M_X12_ahead) (d' := 1) (as := []) (st := []) 12 0 e_X12_aWind_0.2.2.2.1 (kCVof m_X12_ahead l_X12_169) rfl (by decide) km_0 (by decide) (by decide) rfl rfl (by show (0 : Nat) ≤ 8; decide) ?_
  refine Run.mono h (fun r1 s2 h => ?_)
  refine R_eqs (st2 := []) rfl rfl ?_
  refine R_aload_n e_X12_aWind_0.2.2.2.2.1 1 rfl ?_
  refine R_iload_n e_X12_aWind_0.2.2.2.2.2.1 0 rfl ?_
  refine R_iconst e_X12_aWind_0.2.2.2.2.2.2.1 ?_
  refine R_bipush e_X12_aWind_0.2.2.2.2.2.2.2.1 (by decide) ?_
  refine R_callV (mc := 0) (ms := 0) (mc' := 0) (ms' := 0) (M' := M_X12_number) (d' := 2) (as := [vI 2566, vI 0, vI 11]) (st := []) 12 3 e_X12_aWind_0.2.2.2.2.2.2.2.2.1 (kCVof m_X12_number l_X12_199) rfl (by decide) km_0 (by decide) (by decide) rfl rfl (by show (0 : Nat) ≤ 8; decide) ?_
  refine Run.mono h (fun r3 s4 h => ?_)
  refine R_eqs (st2 := [vI r3]) rfl rfl ?_
  obtain ⟨q5, h⟩ := h
  refine R_if_ne 21 e_X12_aWind_0.2.2.2.2.2.2.2.2.2 (by decide) q5  (fun q => ?_) (fun q => ?_)
  · replace h := h.1 q
    refine R_sipush e_X12_aWind_1.2.2.1 (by decide) ?_
    refine R_iconst e_X12_aWind_1.2.2.2.1 ?_
    refine R_aload_n e_X12_aWind_1.2.2.2.2.1 1 rfl ?_
    refine R_getA 12 0 1 e_X12_aWind_1.2.2.2.2.2.1 f_X12_7 km_0 (fun _ _ => rfl) rm_0_0 (by decide) ?_
    refine R_iload_n e_X12_aWind_1.2.2.2.2.2.2.1 0 rfl ?_
    refine R_iald 3598 e_X12_aWind_1.2.2.2.2.2.2.2.1 kma_1 (by decide) ?_
    refine R_imul e_X12_aWind_1.2.2.2.2.2.2.2.2.1 ?_
    refine R_iadd e_X12_aWind_1.2.2.2.2.2.2.2.2.2 ?_
    refine R_istore_n (ls2 := [(2, vI (2066 + (2 * (s4 1 2566)))), (1, vI 2566), (0, vA G 0)]) e_X12_aWind_2.1 (by decide) rfl ?_
    refine R_aload_n e_X12_aWind_2.2.1 2 rfl ?_
    refine R_iload_n e_X12_aWind_2.2.2.1 0 rfl ?_
    refine R_iconst e_X12_aWind_2.2.2.2.1 ?_
    refine R_bipush e_X12_aWind_2.2.2.2.2.1 (by decide) ?_
    refine R_callV (mc := 0) (ms := 0) (mc' := 0) (ms' := 0) (M' := M_X12_number) (d' := 2) (as := [vI (2066 + (2 * (s4 1 2566))), vI 0, vI 7]) (st := []) 12 3 e_X12_aWind_2.2.2.2.2.2.1 (kCVof m_X12_number l_X12_199) rfl (by decide) km_0 (by decide) (by decide) rfl rfl (by show (0 : Nat) ≤ 8; decide) ?_
    refine Run.mono h (fun r6 s7 h => ?_)
    refine R_eqs (st2 := [vI r6]) rfl rfl ?_
    obtain ⟨q8, h⟩ := h
    refine R_if_eq 61 e_X12_aWind_2.2.2.2.2.2.2.1 (by decide) q8  (fun q => ?_) (fun q => ?_)
    · replace h := h.1 q
      refine R_iconst e_X12_aWind_3.2.2.2.2.2.2.2.1 ?_
      exact R_zreturn e_X12_aWind_3.2.2.2.2.2.2.2.2 rfl (Or.inl rfl) h
    · replace h := h.2 q
      refine R_aload_n e_X12_aWind_2.2.2.2.2.2.2.2.1 2 rfl ?_
      refine R_iload_n e_X12_aWind_2.2.2.2.2.2.2.2.2.1 0 rfl ?_
      refine R_iconst e_X12_aWind_2.2.2.2.2.2.2.2.2.2 ?_
      refine R_iadd e_X12_aWind_3.1 ?_
      refine R_iconst e_X12_aWind_3.2.1 ?_
      refine R_iconst e_X12_aWind_3.2.2.1 ?_
      refine R_callV (mc := 0) (ms := 0) (mc' := 0) (ms' := 0) (M' := M_X12_number) (d' := 2) (as := [vI ((2066 + (2 * (s4 1 2566))) + 1), vI 0, vI 3]) (st := []) 12 3 e_X12_aWind_3.2.2.2.1 (kCVof m_X12_number l_X12_199) rfl (by decide) km_0 (by decide) (by decide) rfl rfl (by show (0 : Nat) ≤ 8; decide) ?_
      refine Run.mono h (fun r9 s10 h => ?_)
      refine R_eqs (st2 := [vI r9]) rfl rfl ?_
      obtain ⟨q11, h⟩ := h
      refine R_if_eq 61 e_X12_aWind_3.2.2.2.2.1 (by decide) q11  (fun q => ?_) (fun q => ?_)
      · replace h := h.1 q
        refine R_iconst e_X12_aWind_3.2.2.2.2.2.2.2.1 ?_
        exact R_zreturn e_X12_aWind_3.2.2.2.2.2.2.2.2 rfl (Or.inl rfl) h
      · replace h := h.2 q
        refine R_iconst e_X12_aWind_3.2.2.2.2.2.1 ?_
        refine R_goto 62 e_X12_aWind_3.2.2.2.2.2.2.1 (by decide) ?_
        exact R_zreturn e_X12_aWind_3.2.2.2.2.2.2.2.2 rfl (Or.inr rfl) h
  · replace h := h.2 q
    refine R_iconst e_X12_aWind_1.1 ?_
    exact R_zreturn e_X12_aWind_1.2.1 rfl (Or.inl rfl) h
/-! KiteLandModel.aKite()Z -/
theorem e_X12_aKite_0 : decode cX12_aKite 0 = .ok (.sipush 2090, 3) ∧ decode cX12_aKite 3 = .ok (.bipush 9, 2) ∧ decode cX12_aKite 5 = .ok (.aload_n 0, 1) ∧ decode cX12_aKite 6 = .ok (.getfield 7, 3) ∧ decode cX12_aKite 9 = .ok (.sipush 2058, 3) ∧ decode cX12_aKite 12 = .ok (.iaload, 1) ∧ decode cX12_aKite 13 = .ok (.imul, 1) ∧ decode cX12_aKite 14 = .ok (.iadd, 1) ∧ decode cX12_aKite 15 = .ok (.istore_n 1, 1) ∧ decode cX12_aKite 16 = .ok (.aload_n 0, 1) := by decide +kernel
theorem e_X12_aKite_1 : decode cX12_aKite 17 = .ok (.iconst 2, 1) ∧ decode cX12_aKite 18 = .ok (.bipush 6, 2) ∧ decode cX12_aKite 20 = .ok (.iconst 0, 1) ∧ decode cX12_aKite 21 = .ok (.invokevirtual 203, 3) ∧ decode cX12_aKite 24 = .ok (.ifCond .eq 11, 3) ∧ decode cX12_aKite 27 = .ok (.aload_n 0, 1) ∧ decode cX12_aKite 28 = .ok (.iload_n 1, 1) ∧ decode cX12_aKite 29 = .ok (.invokevirtual 206, 3) ∧ decode cX12_aKite 32 = .ok (.ifCond .ne 5, 3) ∧ decode cX12_aKite 35 = .ok (.iconst 0, 1) := by decide +kernel
theorem e_X12_aKite_2 : decode cX12_aKite 36 = .ok (.ireturn, 1) ∧ decode cX12_aKite 37 = .ok (.aload_n 0, 1) ∧ decode cX12_aKite 38 = .ok (.getfield 7, 3) ∧ decode cX12_aKite 41 = .ok (.iload_n 1, 1) ∧ decode cX12_aKite 42 = .ok (.iconst 2, 1) ∧ decode cX12_aKite 43 = .ok (.iadd, 1) ∧ decode cX12_aKite 44 = .ok (.iconst 1, 1) ∧ decode cX12_aKite 45 = .ok (.iastore, 1) ∧ decode cX12_aKite 46 = .ok (.aload_n 0, 1) ∧ decode cX12_aKite 47 = .ok (.getfield 7, 3) := by decide +kernel
theorem e_X12_aKite_3 : decode cX12_aKite 50 = .ok (.iload_n 1, 1) ∧ decode cX12_aKite 51 = .ok (.iconst 3, 1) ∧ decode cX12_aKite 52 = .ok (.iadd, 1) ∧ decode cX12_aKite 53 = .ok (.iconst 3, 1) ∧ decode cX12_aKite 54 = .ok (.iastore, 1) ∧ decode cX12_aKite 55 = .ok (.aload_n 0, 1) ∧ decode cX12_aKite 56 = .ok (.getfield 7, 3) ∧ decode cX12_aKite 59 = .ok (.iload_n 1, 1) ∧ decode cX12_aKite 60 = .ok (.iconst 4, 1) ∧ decode cX12_aKite 61 = .ok (.iadd, 1) := by decide +kernel
theorem e_X12_aKite_4 : decode cX12_aKite 62 = .ok (.iconst 1, 1) ∧ decode cX12_aKite 63 = .ok (.iastore, 1) ∧ decode cX12_aKite 64 = .ok (.aload_n 0, 1) ∧ decode cX12_aKite 65 = .ok (.bipush 9, 2) ∧ decode cX12_aKite 67 = .ok (.invokevirtual 209, 3) ∧ decode cX12_aKite 70 = .ok (.ifCond .eq 15, 3) ∧ decode cX12_aKite 73 = .ok (.aload_n 0, 1) ∧ decode cX12_aKite 74 = .ok (.iload_n 1, 1) ∧ decode cX12_aKite 75 = .ok (.iconst 2, 1) ∧ decode cX12_aKite 76 = .ok (.iadd, 1) := by decide +kernel
theorem e_X12_aKite_5 : decode cX12_aKite 77 = .ok (.iconst 0, 1) ∧ decode cX12_aKite 78 = .ok (.iconst 2, 1) ∧ decode cX12_aKite 79 = .ok (.invokevirtual 199, 3) ∧ decode cX12_aKite 82 = .ok (.ifCond .eq 69, 3) ∧ decode cX12_aKite 85 = .ok (.aload_n 0, 1) ∧ decode cX12_aKite 86 = .ok (.bipush 10, 2) ∧ decode cX12_aKite 88 = .ok (.invokevirtual 209, 3) ∧ decode cX12_aKite 91 = .ok (.ifCond .eq 16, 3) ∧ decode cX12_aKite 94 = .ok (.aload_n 0, 1) ∧ decode cX12_aKite 95 = .ok (.iload_n 1, 1) := by decide +kernel
theorem e_X12_aKite_6 : decode cX12_aKite 96 = .ok (.iconst 3, 1) ∧ decode cX12_aKite 97 = .ok (.iadd, 1) ∧ decode cX12_aKite 98 = .ok (.iconst 0, 1) ∧ decode cX12_aKite 99 = .ok (.bipush 9, 2) ∧ decode cX12_aKite 101 = .ok (.invokevirtual 199, 3) ∧ decode cX12_aKite 104 = .ok (.ifCond .eq 47, 3) ∧ decode cX12_aKite 107 = .ok (.aload_n 0, 1) ∧ decode cX12_aKite 108 = .ok (.bipush 11, 2) ∧ decode cX12_aKite 110 = .ok (.invokevirtual 209, 3) ∧ decode cX12_aKite 113 = .ok (.ifCond .eq 15, 3) := by decide +kernel
theorem e_X12_aKite_7 : decode cX12_aKite 116 = .ok (.aload_n 0, 1) ∧ decode cX12_aKite 117 = .ok (.iload_n 1, 1) ∧ decode cX12_aKite 118 = .ok (.iconst 4, 1) ∧ decode cX12_aKite 119 = .ok (.iadd, 1) ∧ decode cX12_aKite 120 = .ok (.iconst 0, 1) ∧ decode cX12_aKite 121 = .ok (.iconst 3, 1) ∧ decode cX12_aKite 122 = .ok (.invokevirtual 199, 3) ∧ decode cX12_aKite 125 = .ok (.ifCond .eq 26, 3) ∧ decode cX12_aKite 128 = .ok (.aload_n 0, 1) ∧ decode cX12_aKite 129 = .ok (.bipush 12, 2) := by decide +kernel
theorem e_X12_aKite_8 : decode cX12_aKite 131 = .ok (.invokevirtual 209, 3) ∧ decode cX12_aKite 134 = .ok (.ifCond .eq 19, 3) ∧ decode cX12_aKite 137 = .ok (.aload_n 0, 1) ∧ decode cX12_aKite 138 = .ok (.iload_n 1, 1) ∧ decode cX12_aKite 139 = .ok (.bipush 7, 2) ∧ decode cX12_aKite 141 = .ok (.iadd, 1) ∧ decode cX12_aKite 142 = .ok (.iconst 0, 1) ∧ decode cX12_aKite 143 = .ok (.bipush 7, 2) ∧ decode cX12_aKite 145 = .ok (.invokevirtual 199, 3) ∧ decode cX12_aKite 148 = .ok (.ifCond .ne 5, 3) := by decide +kernel
theorem e_X12_aKite_9 : decode cX12_aKite 151 = .ok (.iconst 0, 1) ∧ decode cX12_aKite 152 = .ok (.ireturn, 1) ∧ decode cX12_aKite 153 = .ok (.aload_n 0, 1) ∧ decode cX12_aKite 154 = .ok (.getfield 7, 3) ∧ decode cX12_aKite 157 = .ok (.sipush 2058, 3) ∧ decode cX12_aKite 160 = .ok (.dup2, 1) ∧ decode cX12_aKite 161 = .ok (.iaload, 1) ∧ decode cX12_aKite 162 = .ok (.iconst 1, 1) ∧ decode cX12_aKite 163 = .ok (.iadd, 1) ∧ decode cX12_aKite 164 = .ok (.iastore, 1) := by decide +kernel
theorem e_X12_aKite_10 : decode cX12_aKite 165 = .ok (.iconst 1, 1) ∧ decode cX12_aKite 166 = .ok (.ireturn, 1) := by decide +kernel
abbrev E_X12_aKite_85 (G : Kg) (l1 : Int) (σ : Kmem) (Q : Int → Kmem → Prop) : Prop := Ex G WM M_X12_aKite 7 0 0 85 [(0, vA G 0), (1, vI l1)] [] σ Q
abbrev E_X12_aKite_128 (G : Kg) (l1 : Int) (σ : Kmem) (Q : Int → Kmem → Prop) : Prop := Ex G WM M_X12_aKite 7 0 0 128 [(0, vA G 0), (1, vI l1)] [] σ Q
theorem S_X12_aKite {G : Kg} {σ : Kmem} {Q : Int → Kmem → Prop}  (h : Run G WM M_X12_newOne 6 0 0 [vA G 0, vI 2, vI 6, vI 0] σ (fun r1 s2 => (rI r1) ∧ ((r1 = 0 → Q 0 s2) ∧ (r1 ≠ 0 → Run G WM M_X12_fieldTo 6 0 0 [vA G 0, vI (2090 + (9 * (σ 1 2058)))] s2 (fun r4 s5 => (rI r4) ∧ ((r4 ≠ 0 → (0 ≤ (2090 + (9 * (σ 1 2058))) + 2 ∧ (2090 + (9 * (σ 1 2058))) + 2 < 3598) ∧ (0 ≤ (2090 + (9 * (σ 1 2058))) + 3 ∧ (2090 + (9 * (σ 1 2058))) + 3 < 3598) ∧ (0 ≤ (2090 + (9 * (σ 1 2058))) + 4 ∧ (2090 + (9 * (σ 1 2058))) + 4 < 3598) ∧ Run G WM M_X12_isThere 5 0 0 [vA G 0, vI 9] (kup (kup (kup s5 1 ((2090 + (9 * (σ 1 2058))) + 2) 1) 1 ((2090 + (9 * (σ 1 2058))) + 3) 3) 1 ((2090 + (9 * (σ 1 2058))) + 4) 1) (fun r10 s11 => (rI r10) ∧ ((r10 = 0 → E_X12_aKite_85 G (2090 + (9 * (σ 1 2058))) s11 Q) ∧ (r10 ≠ 0 → Run G WM M_X12_number 2 0 0 [vA G 0, vI ((2090 + (9 * (σ 1 2058))) + 2), vI 0, vI 2] s11 (fun r13 s14 => (rI r13) ∧ ((r13 = 0 → Q 0 s14) ∧ (r13 ≠ 0 → E_X12_aKite_85 G (2090 + (9 * (σ 1 2058))) s14 Q))))))) ∧ (r4 = 0 → Q 0 s5))))))) : Run G WM M_X12_aKite 7 0 0 [vA G 0] σ Q := by
  refine Run.of (by decide +kernel) (by show (1 : Nat) ≤ 2; decide) ?_
  show Ex G WM M_X12_aKite 7 0 0 0 [(0, vA G 0)] [] σ Q
  refine R_sipush e_X12_aKite_0.1 (by decide) ?_
  refine R_bipush e_X12_aKite_0.2.1 (by decide) ?_
  refine R_aload_n e_X12_aKite_0.2.2.1 0 rfl ?_
  refine R_getA 12 0 1 e_X12_aKite_0.2.2.2.1 f_X12_7 km_0 (fun _ _ => rfl) rm_0_0 (by decide) ?_
  refine R_sipush e_X12_aKite_0.2.2.2.2.1 (by decide) ?_
  refine R_iald 3598 e_X12_aKite_0.2.2.2.2.2.1 kma_1 (by decide) ?_
  refine R_imul e_X12_aKite_0.2.2.2.2.2.2.1 ?_
  refine R_iadd e_X12_aKite_0.2.2.2.2.2.2.2.1 ?_
  refine R_istore_n (ls2 := [(1, vI (2090 + (9 * (σ 1 2058)))), (0, vA G 0)]) e_X12_aKite_0.2.2.2.2.2.2.2.2.1 (by decide) rfl ?_
  refine R_aload_n e_X12_aKite_0.2.2.2.2.2.2.2.2.2 1 rfl ?_
  refine R_iconst e_X12_aKite_1.1 ?_
  refine R_bipush e_X12_aKite_1.2.1 (by decide) ?_
  refine R_iconst e_X12_aKite_1.2.2.1 ?_
  refine R_callV (mc := 0) (ms := 0) (mc' := 0) (ms' := 0) (M' := M_X12_newOne) (d' := 6) (as := [vI 2, vI 6, vI 0]) (st := []) 12 3 e_X12_aKite_1.2.2.2.1 (kCVof m_X12_newOne l_X12_203) rfl (by decide) km_0 (by decide) (by decide) rfl rfl (by show (0 : Nat) ≤ 8; decide) ?_
  refine Run.mono h (fun r1 s2 h => ?_)
  refine R_eqs (st2 := [vI r1]) rfl rfl ?_
  obtain ⟨q3, h⟩ := h
  refine R_if_eq 35 e_X12_aKite_1.2.2.2.2.1 (by decide) q3  (fun q => ?_) (fun q => ?_)
  · replace h := h.1 q
    refine R_iconst e_X12_aKite_1.2.2.2.2.2.2.2.2.2 ?_
    exact R_zreturn e_X12_aKite_2.1 rfl (Or.inl rfl) h
  · replace h := h.2 q
    refine R_aload_n e_X12_aKite_1.2.2.2.2.2.1 1 rfl ?_
    refine R_iload_n e_X12_aKite_1.2.2.2.2.2.2.1 0 rfl ?_
    refine R_callV (mc := 0) (ms := 0) (mc' := 0) (ms' := 0) (M' := M_X12_fieldTo) (d' := 6) (as := [vI (2090 + (9 * (σ 1 2058)))]) (st := []) 12 1 e_X12_aKite_1.2.2.2.2.2.2.2.1 (kCVof m_X12_fieldTo l_X12_206) rfl (by decide) km_0 (by decide) (by decide) rfl rfl (by show (0 : Nat) ≤ 8; decide) ?_
    refine Run.mono h (fun r4 s5 h => ?_)
    refine R_eqs (st2 := [vI r4]) rfl rfl ?_
    obtain ⟨q6, h⟩ := h
    refine R_if_ne 37 e_X12_aKite_1.2.2.2.2.2.2.2.2.1 (by decide) q6  (fun q => ?_) (fun q => ?_)
    · replace h := h.1 q
      refine R_aload_n e_X12_aKite_2.2.1 1 rfl ?_
      refine R_getA 12 0 1 e_X12_aKite_2.2.2.1 f_X12_7 km_0 (fun _ _ => rfl) rm_0_0 (by decide) ?_
      refine R_iload_n e_X12_aKite_2.2.2.2.1 0 rfl ?_
      refine R_iconst e_X12_aKite_2.2.2.2.2.1 ?_
      refine R_iadd e_X12_aKite_2.2.2.2.2.2.1 ?_
      refine R_iconst e_X12_aKite_2.2.2.2.2.2.2.1 ?_
      obtain ⟨q7, h⟩ := h
      refine R_iast 3598 WM_ok e_X12_aKite_2.2.2.2.2.2.2.2.1 kma_1 q7 ?_
      refine R_aload_n e_X12_aKite_2.2.2.2.2.2.2.2.2.1 1 rfl ?_
      refine R_getA 12 0 1 e_X12_aKite_2.2.2.2.2.2.2.2.2.2 f_X12_7 km_0 (fun _ _ => rfl) rm_0_0 (by decide) ?_
      refine R_iload_n e_X12_aKite_3.1 0 rfl ?_
      refine R_iconst e_X12_aKite_3.2.1 ?_
      refine R_iadd e_X12_aKite_3.2.2.1 ?_
      refine R_iconst e_X12_aKite_3.2.2.2.1 ?_
      obtain ⟨q8, h⟩ := h
      refine R_iast 3598 WM_ok e_X12_aKite_3.2.2.2.2.1 kma_1 q8 ?_
      refine R_aload_n e_X12_aKite_3.2.2.2.2.2.1 1 rfl ?_
      refine R_getA 12 0 1 e_X12_aKite_3.2.2.2.2.2.2.1 f_X12_7 km_0 (fun _ _ => rfl) rm_0_0 (by decide) ?_
      refine R_iload_n e_X12_aKite_3.2.2.2.2.2.2.2.1 0 rfl ?_
      refine R_iconst e_X12_aKite_3.2.2.2.2.2.2.2.2.1 ?_
      refine R_iadd e_X12_aKite_3.2.2.2.2.2.2.2.2.2 ?_
      refine R_iconst e_X12_aKite_4.1 ?_
      obtain ⟨q9, h⟩ := h
      refine R_iast 3598 WM_ok e_X12_aKite_4.2.1 kma_1 q9 ?_
      refine R_aload_n e_X12_aKite_4.2.2.1 1 rfl ?_
      refine R_bipush e_X12_aKite_4.2.2.2.1 (by decide) ?_
      refine R_callV (mc := 0) (ms := 0) (mc' := 0) (ms' := 0) (M' := M_X12_isThere) (d' := 5) (as := [vI 9]) (st := []) 12 1 e_X12_aKite_4.2.2.2.2.1 (kCVof m_X12_isThere l_X12_209) rfl (by decide) km_0 (by decide) (by decide) rfl rfl (by show (0 : Nat) ≤ 8; decide) ?_
      refine Run.mono h (fun r10 s11 h => ?_)
      refine R_eqs (st2 := [vI r10]) rfl rfl ?_
      obtain ⟨q12, h⟩ := h
      refine R_if_eq 85 e_X12_aKite_4.2.2.2.2.2.1 (by decide) q12  (fun q => ?_) (fun q => ?_)
      · replace h := h.1 q
        refine R_ls (ls2 := [(0, vA G 0), (1, vI (2090 + (9 * (σ 1 2058))))]) [1, 0] rfl ?_
        exact h
      · replace h := h.2 q
        refine R_aload_n e_X12_aKite_4.2.2.2.2.2.2.1 1 rfl ?_
        refine R_iload_n e_X12_aKite_4.2.2.2.2.2.2.2.1 0 rfl ?_
        refine R_iconst e_X12_aKite_4.2.2.2.2.2.2.2.2.1 ?_
        refine R_iadd e_X12_aKite_4.2.2.2.2.2.2.2.2.2 ?_
        refine R_iconst e_X12_aKite_5.1 ?_
        refine R_iconst e_X12_aKite_5.2.1 ?_
        refine R_callV (mc := 0) (ms := 0) (mc' := 0) (ms' := 0) (M' := M_X12_number) (d' := 2) (as := [vI ((2090 + (9 * (σ 1 2058))) + 2), vI 0, vI 2]) (st := []) 12 3 e_X12_aKite_5.2.2.1 (kCVof m_X12_number l_X12_199) rfl (by decide) km_0 (by decide) (by decide) rfl rfl (by show (0 : Nat) ≤ 8; decide) ?_
        refine Run.mono h (fun r13 s14 h => ?_)
        refine R_eqs (st2 := [vI r13]) rfl rfl ?_
        obtain ⟨q15, h⟩ := h
        refine R_if_eq 151 e_X12_aKite_5.2.2.2.1 (by decide) q15  (fun q => ?_) (fun q => ?_)
        · replace h := h.1 q
          refine R_iconst e_X12_aKite_9.1 ?_
          exact R_zreturn e_X12_aKite_9.2.1 rfl (Or.inl rfl) h
        · replace h := h.2 q
          refine R_ls (ls2 := [(0, vA G 0), (1, vI (2090 + (9 * (σ 1 2058))))]) [1, 0] rfl ?_
          exact h
    · replace h := h.2 q
      refine R_iconst e_X12_aKite_1.2.2.2.2.2.2.2.2.2 ?_
      exact R_zreturn e_X12_aKite_2.1 rfl (Or.inl rfl) h
theorem S_X12_aKite_85 {G : Kg} {σ : Kmem} {Q : Int → Kmem → Prop} {l1 : Int}  (h : Run G WM M_X12_isThere 5 0 0 [vA G 0, vI 10] σ (fun r16 s17 => (rI r16) ∧ ((r16 = 0 → Run G WM M_X12_isThere 5 0 0 [vA G 0, vI 11] s17 (fun r19 s20 => (rI r19) ∧ ((r19 = 0 → E_X12_aKite_128 G l1 s20 Q) ∧ (r19 ≠ 0 → Run G WM M_X12_number 2 0 0 [vA G 0, vI (l1 + 4), vI 0, vI 3] s20 (fun r22 s23 => (rI r22) ∧ ((r22 = 0 → Q 0 s23) ∧ (r22 ≠ 0 → E_X12_aKite_128 G l1 s23 Q))))))) ∧ (r16 ≠ 0 → Run G WM M_X12_number 2 0 0 [vA G 0, vI (l1 + 3), vI 0, vI 9] s17 (fun r25 s26 => (rI r25) ∧ ((r25 = 0 → Q 0 s26) ∧ (r25 ≠ 0 → Run G WM M_X12_isThere 5 0 0 [vA G 0, vI 11] s26 (fun r28 s29 => (rI r28) ∧ ((r28 = 0 → E_X12_aKite_128 G l1 s29 Q) ∧ (r28 ≠ 0 → Run G WM M_X12_number 2 0 0 [vA G 0, vI (l1 + 4), vI 0, vI 3] s29 (fun r31 s32 => (rI r31) ∧ ((r31 = 0 → Q 0 s32) ∧ (r31 ≠ 0 → E_X12_aKite_128 G l1 s32 Q))))))))))))) : E_X12_aKite_85 G l1 σ Q := by
  refine R_aload_n e_X12_aKite_5.2.2.2.2.1 0 rfl ?_
  refine R_bipush e_X12_aKite_5.2.2.2.2.2.1 (by decide) ?_
  refine R_callV (mc := 0) (ms := 0) (mc' := 0) (ms' := 0) (M' := M_X12_isThere) (d' := 5) (as := [vI 10]) (st := []) 12 1 e_X12_aKite_5.2.2.2.2.2.2.1 (kCVof m_X12_isThere l_X12_209) rfl (by decide) km_0 (by decide) (by decide) rfl rfl (by show (0 : Nat) ≤ 8; decide) ?_
  refine Run.mono h (fun r16 s17 h => ?_)
  refine R_eqs (st2 := [vI r16]) rfl rfl ?_
  obtain ⟨q18, h⟩ := h
  refine R_if_eq 107 e_X12_aKite_5.2.2.2.2.2.2.2.1 (by decide) q18  (fun q => ?_) (fun q => ?_)
  · replace h := h.1 q
    refine R_aload_n e_X12_aKite_6.2.2.2.2.2.2.1 0 rfl ?_
    refine R_bipush e_X12_aKite_6.2.2.2.2.2.2.2.1 (by decide) ?_
    refine R_callV (mc := 0) (ms := 0) (mc' := 0) (ms' := 0) (M' := M_X12_isThere) (d' := 5) (as := [vI 11]) (st := []) 12 1 e_X12_aKite_6.2.2.2.2.2.2.2.2.1 (kCVof m_X12_isThere l_X12_209) rfl (by decide) km_0 (by decide) (by decide) rfl rfl (by show (0 : Nat) ≤ 8; decide) ?_
    refine Run.mono h (fun r19 s20 h => ?_)
    refine R_eqs (st2 := [vI r19]) rfl rfl ?_
    obtain ⟨q21, h⟩ := h
    refine R_if_eq 128 e_X12_aKite_6.2.2.2.2.2.2.2.2.2 (by decide) q21  (fun q => ?_) (fun q => ?_)
    · replace h := h.1 q
      refine R_ls (ls2 := [(0, vA G 0), (1, vI l1)]) [0, 1] rfl ?_
      exact h
    · replace h := h.2 q
      refine R_aload_n e_X12_aKite_7.1 0 rfl ?_
      refine R_iload_n e_X12_aKite_7.2.1 1 rfl ?_
      refine R_iconst e_X12_aKite_7.2.2.1 ?_
      refine R_iadd e_X12_aKite_7.2.2.2.1 ?_
      refine R_iconst e_X12_aKite_7.2.2.2.2.1 ?_
      refine R_iconst e_X12_aKite_7.2.2.2.2.2.1 ?_
      refine R_callV (mc := 0) (ms := 0) (mc' := 0) (ms' := 0) (M' := M_X12_number) (d' := 2) (as := [vI (l1 + 4), vI 0, vI 3]) (st := []) 12 3 e_X12_aKite_7.2.2.2.2.2.2.1 (kCVof m_X12_number l_X12_199) rfl (by decide) km_0 (by decide) (by decide) rfl rfl (by show (0 : Nat) ≤ 8; decide) ?_
      refine Run.mono h (fun r22 s23 h => ?_)
      refine R_eqs (st2 := [vI r22]) rfl rfl ?_
      obtain ⟨q24, h⟩ := h
      refine R_if_eq 151 e_X12_aKite_7.2.2.2.2.2.2.2.1 (by decide) q24  (fun q => ?_) (fun q => ?_)
      · replace h := h.1 q
        refine R_iconst e_X12_aKite_9.1 ?_
        exact R_zreturn e_X12_aKite_9.2.1 rfl (Or.inl rfl) h
      · replace h := h.2 q
        refine R_ls (ls2 := [(0, vA G 0), (1, vI l1)]) [0, 1] rfl ?_
        exact h
  · replace h := h.2 q
    refine R_aload_n e_X12_aKite_5.2.2.2.2.2.2.2.2.1 0 rfl ?_
    refine R_iload_n e_X12_aKite_5.2.2.2.2.2.2.2.2.2 1 rfl ?_
    refine R_iconst e_X12_aKite_6.1 ?_
    refine R_iadd e_X12_aKite_6.2.1 ?_
    refine R_iconst e_X12_aKite_6.2.2.1 ?_
    refine R_bipush e_X12_aKite_6.2.2.2.1 (by decide) ?_
    refine R_callV (mc := 0) (ms := 0) (mc' := 0) (ms' := 0) (M' := M_X12_number) (d' := 2) (as := [vI (l1 + 3), vI 0, vI 9]) (st := []) 12 3 e_X12_aKite_6.2.2.2.2.1 (kCVof m_X12_number l_X12_199) rfl (by decide) km_0 (by decide) (by decide) rfl rfl (by show (0 : Nat) ≤ 8; decide) ?_
    refine Run.mono h (fun r25 s26 h => ?_)
    refine R_eqs (st2 := [vI r25]) rfl rfl ?_
    obtain ⟨q27, h⟩ := h
    refine R_if_eq 151 e_X12_aKite_6.2.2.2.2.2.1 (by decide) q27  (fun q => ?_) (fun q => ?_)
    · replace h := h.1 q
      refine R_iconst e_X12_aKite_9.1 ?_
      exact R_zreturn e_X12_aKite_9.2.1 rfl (Or.inl rfl) h
    · replace h := h.2 q
      refine R_aload_n e_X12_aKite_6.2.2.2.2.2.2.1 0 rfl ?_
      refine R_bipush e_X12_aKite_6.2.2.2.2.2.2.2.1 (by decide) ?_
      refine R_callV (mc := 0) (ms := 0) (mc' := 0) (ms' := 0) (M' := M_X12_isThere) (d' := 5) (as := [vI 11]) (st := []) 12 1 e_X12_aKite_6.2.2.2.2.2.2.2.2.1 (kCVof m_X12_isThere l_X12_209) rfl (by decide) km_0 (by decide) (by decide) rfl rfl (by show (0 : Nat) ≤ 8; decide) ?_
      refine Run.mono h (fun r28 s29 h => ?_)
      refine R_eqs (st2 := [vI r28]) rfl rfl ?_
      obtain ⟨q30, h⟩ := h
      refine R_if_eq 128 e_X12_aKite_6.2.2.2.2.2.2.2.2.2 (by decide) q30  (fun q => ?_) (fun q => ?_)
      · replace h := h.1 q
        refine R_ls (ls2 := [(0, vA G 0), (1, vI l1)]) [0, 1] rfl ?_
        exact h
      · replace h := h.2 q
        refine R_aload_n e_X12_aKite_7.1 0 rfl ?_
        refine R_iload_n e_X12_aKite_7.2.1 1 rfl ?_
        refine R_iconst e_X12_aKite_7.2.2.1 ?_
        refine R_iadd e_X12_aKite_7.2.2.2.1 ?_
        refine R_iconst e_X12_aKite_7.2.2.2.2.1 ?_
        refine R_iconst e_X12_aKite_7.2.2.2.2.2.1 ?_
        refine R_callV (mc := 0) (ms := 0) (mc' := 0) (ms' := 0) (M' := M_X12_number) (d' := 2) (as := [vI (l1 + 4), vI 0, vI 3]) (st := []) 12 3 e_X12_aKite_7.2.2.2.2.2.2.1 (kCVof m_X12_number l_X12_199) rfl (by decide) km_0 (by decide) (by decide) rfl rfl (by show (0 : Nat) ≤ 8; decide) ?_
        refine Run.mono h (fun r31 s32 h => ?_)
        refine R_eqs (st2 := [vI r31]) rfl rfl ?_
        obtain ⟨q33, h⟩ := h
        refine R_if_eq 151 e_X12_aKite_7.2.2.2.2.2.2.2.1 (by decide) q33  (fun q => ?_) (fun q => ?_)
        · replace h := h.1 q
          refine R_iconst e_X12_aKite_9.1 ?_
          exact R_zreturn e_X12_aKite_9.2.1 rfl (Or.inl rfl) h
        · replace h := h.2 q
          refine R_ls (ls2 := [(0, vA G 0), (1, vI l1)]) [0, 1] rfl ?_
          exact h
theorem S_X12_aKite_128 {G : Kg} {σ : Kmem} {Q : Int → Kmem → Prop} {l1 : Int}  (h : Run G WM M_X12_isThere 5 0 0 [vA G 0, vI 12] σ (fun r34 s35 => (rI r34) ∧ ((r34 = 0 → Q 1 (kup s35 1 2058 ((s35 1 2058) + 1))) ∧ (r34 ≠ 0 → Run G WM M_X12_number 2 0 0 [vA G 0, vI (l1 + 7), vI 0, vI 7] s35 (fun r37 s38 => (rI r37) ∧ ((r37 ≠ 0 → Q 1 (kup s38 1 2058 ((s38 1 2058) + 1))) ∧ (r37 = 0 → Q 0 s38))))))) : E_X12_aKite_128 G l1 σ Q := by
  refine R_aload_n e_X12_aKite_7.2.2.2.2.2.2.2.2.1 0 rfl ?_
  refine R_bipush e_X12_aKite_7.2.2.2.2.2.2.2.2.2 (by decide) ?_
  refine R_callV (mc := 0) (ms := 0) (mc' := 0) (ms' := 0) (M' := M_X12_isThere) (d' := 5) (as := [vI 12]) (st := []) 12 1 e_X12_aKite_8.1 (kCVof m_X12_isThere l_X12_209) rfl (by decide) km_0 (by decide) (by decide) rfl rfl (by show (0 : Nat) ≤ 8; decide) ?_
  refine Run.mono h (fun r34 s35 h => ?_)
  refine R_eqs (st2 := [vI r34]) rfl rfl ?_
  obtain ⟨q36, h⟩ := h
  refine R_if_eq 153 e_X12_aKite_8.2.1 (by decide) q36  (fun q => ?_) (fun q => ?_)
  · replace h := h.1 q
    refine R_aload_n e_X12_aKite_9.2.2.1 0 rfl ?_
    refine R_getA 12 0 1 e_X12_aKite_9.2.2.2.1 f_X12_7 km_0 (fun _ _ => rfl) rm_0_0 (by decide) ?_
    refine R_sipush e_X12_aKite_9.2.2.2.2.1 (by decide) ?_
    refine R_dup2 e_X12_aKite_9.2.2.2.2.2.1 rfl rfl ?_
    refine R_iald 3598 e_X12_aKite_9.2.2.2.2.2.2.1 kma_1 (by decide) ?_
    refine R_iconst e_X12_aKite_9.2.2.2.2.2.2.2.1 ?_
    refine R_iadd e_X12_aKite_9.2.2.2.2.2.2.2.2.1 ?_
    refine R_iast 3598 WM_ok e_X12_aKite_9.2.2.2.2.2.2.2.2.2 kma_1 (by decide) ?_
    refine R_iconst e_X12_aKite_10.1 ?_
    exact R_zreturn e_X12_aKite_10.2 rfl (Or.inr rfl) h
  · replace h := h.2 q
    refine R_aload_n e_X12_aKite_8.2.2.1 0 rfl ?_
    refine R_iload_n e_X12_aKite_8.2.2.2.1 1 rfl ?_
    refine R_bipush e_X12_aKite_8.2.2.2.2.1 (by decide) ?_
    refine R_iadd e_X12_aKite_8.2.2.2.2.2.1 ?_
    refine R_iconst e_X12_aKite_8.2.2.2.2.2.2.1 ?_
    refine R_bipush e_X12_aKite_8.2.2.2.2.2.2.2.1 (by decide) ?_
    refine R_callV (mc := 0) (ms := 0) (mc' := 0) (ms' := 0) (M' := M_X12_number) (d' := 2) (as := [vI (l1 + 7), vI 0, vI 7]) (st := []) 12 3 e_X12_aKite_8.2.2.2.2.2.2.2.2.1 (kCVof m_X12_number l_X12_199) rfl (by decide) km_0 (by decide) (by decide) rfl rfl (by show (0 : Nat) ≤ 8; decide) ?_
    refine Run.mono h (fun r37 s38 h => ?_)
    refine R_eqs (st2 := [vI r37]) rfl rfl ?_
    obtain ⟨q39, h⟩ := h
    refine R_if_ne 153 e_X12_aKite_8.2.2.2.2.2.2.2.2.2 (by decide) q39  (fun q => ?_) (fun q => ?_)
    · replace h := h.1 q
      refine R_aload_n e_X12_aKite_9.2.2.1 0 rfl ?_
      refine R_getA 12 0 1 e_X12_aKite_9.2.2.2.1 f_X12_7 km_0 (fun _ _ => rfl) rm_0_0 (by decide) ?_
      refine R_sipush e_X12_aKite_9.2.2.2.2.1 (by decide) ?_
      refine R_dup2 e_X12_aKite_9.2.2.2.2.2.1 rfl rfl ?_
      refine R_iald 3598 e_X12_aKite_9.2.2.2.2.2.2.1 kma_1 (by decide) ?_
      refine R_iconst e_X12_aKite_9.2.2.2.2.2.2.2.1 ?_
      refine R_iadd e_X12_aKite_9.2.2.2.2.2.2.2.2.1 ?_
      refine R_iast 3598 WM_ok e_X12_aKite_9.2.2.2.2.2.2.2.2.2 kma_1 (by decide) ?_
      refine R_iconst e_X12_aKite_10.1 ?_
      exact R_zreturn e_X12_aKite_10.2 rfl (Or.inr rfl) h
    · replace h := h.2 q
      refine R_iconst e_X12_aKite_9.1 ?_
      exact R_zreturn e_X12_aKite_9.2.1 rfl (Or.inl rfl) h
/-! KiteLandModel.aCrop()Z -/
theorem e_X12_aCrop_0 : decode cX12_aCrop 0 = .ok (.sipush 2144, 3) ∧ decode cX12_aCrop 3 = .ok (.iconst 4, 1) ∧ decode cX12_aCrop 4 = .ok (.aload_n 0, 1) ∧ decode cX12_aCrop 5 = .ok (.getfield 7, 3) ∧ decode cX12_aCrop 8 = .ok (.sipush 2059, 3) ∧ decode cX12_aCrop 11 = .ok (.iaload, 1) ∧ decode cX12_aCrop 12 = .ok (.imul, 1) ∧ decode cX12_aCrop 13 = .ok (.iadd, 1) ∧ decode cX12_aCrop 14 = .ok (.istore_n 1, 1) ∧ decode cX12_aCrop 15 = .ok (.aload_n 0, 1) := by decide +kernel
theorem e_X12_aCrop_1 : decode cX12_aCrop 16 = .ok (.iconst 3, 1) ∧ decode cX12_aCrop 17 = .ok (.bipush 8, 2) ∧ decode cX12_aCrop 19 = .ok (.bipush 6, 2) ∧ decode cX12_aCrop 21 = .ok (.invokevirtual 203, 3) ∧ decode cX12_aCrop 24 = .ok (.ifCond .eq 35, 3) ∧ decode cX12_aCrop 27 = .ok (.aload_n 0, 1) ∧ decode cX12_aCrop 28 = .ok (.iload_n 1, 1) ∧ decode cX12_aCrop 29 = .ok (.invokevirtual 206, 3) ∧ decode cX12_aCrop 32 = .ok (.ifCond .eq 27, 3) ∧ decode cX12_aCrop 35 = .ok (.aload_n 0, 1) := by decide +kernel
theorem e_X12_aCrop_2 : decode cX12_aCrop 36 = .ok (.ldc 186, 2) ∧ decode cX12_aCrop 38 = .ok (.bipush 13, 2) ∧ decode cX12_aCrop 40 = .ok (.invokevirtual 195, 3) ∧ decode cX12_aCrop 43 = .ok (.ifCond .eq 16, 3) ∧ decode cX12_aCrop 46 = .ok (.aload_n 0, 1) ∧ decode cX12_aCrop 47 = .ok (.iload_n 1, 1) ∧ decode cX12_aCrop 48 = .ok (.iconst 2, 1) ∧ decode cX12_aCrop 49 = .ok (.iadd, 1) ∧ decode cX12_aCrop 50 = .ok (.iconst 1, 1) ∧ decode cX12_aCrop 51 = .ok (.bipush 99, 2) := by decide +kernel
theorem e_X12_aCrop_3 : decode cX12_aCrop 53 = .ok (.invokevirtual 199, 3) ∧ decode cX12_aCrop 56 = .ok (.ifCond .ne 5, 3) ∧ decode cX12_aCrop 59 = .ok (.iconst 0, 1) ∧ decode cX12_aCrop 60 = .ok (.ireturn, 1) ∧ decode cX12_aCrop 61 = .ok (.aload_n 0, 1) ∧ decode cX12_aCrop 62 = .ok (.getfield 7, 3) ∧ decode cX12_aCrop 65 = .ok (.sipush 2059, 3) ∧ decode cX12_aCrop 68 = .ok (.dup2, 1) ∧ decode cX12_aCrop 69 = .ok (.iaload, 1) ∧ decode cX12_aCrop 70 = .ok (.iconst 1, 1) := by decide +kernel
theorem e_X12_aCrop_4 : decode cX12_aCrop 71 = .ok (.iadd, 1) ∧ decode cX12_aCrop 72 = .ok (.iastore, 1) ∧ decode cX12_aCrop 73 = .ok (.iconst 1, 1) ∧ decode cX12_aCrop 74 = .ok (.ireturn, 1) := by decide +kernel
theorem S_X12_aCrop {G : Kg} {σ : Kmem} {Q : Int → Kmem → Prop}  (h : Run G WM M_X12_newOne 6 0 0 [vA G 0, vI 3, vI 8, vI 6] σ (fun r1 s2 => (rI r1) ∧ ((r1 = 0 → Q 0 s2) ∧ (r1 ≠ 0 → Run G WM M_X12_fieldTo 6 0 0 [vA G 0, vI (2144 + (4 * (σ 1 2059)))] s2 (fun r4 s5 => (rI r4) ∧ ((r4 = 0 → Q 0 s5) ∧ (r4 ≠ 0 → Run G WM M_X12_wantWord 5 0 0 [vA G 0, vA G (-38), vI 13] s5 (fun r7 s8 => (rI r7) ∧ ((r7 = 0 → Q 0 s8) ∧ (r7 ≠ 0 → Run G WM M_X12_number 2 0 0 [vA G 0, vI ((2144 + (4 * (σ 1 2059))) + 2), vI 1, vI 99] s8 (fun r10 s11 => (rI r10) ∧ ((r10 ≠ 0 → Q 1 (kup s11 1 2059 ((s11 1 2059) + 1))) ∧ (r10 = 0 → Q 0 s11))))))))))))) : Run G WM M_X12_aCrop 7 0 0 [vA G 0] σ Q := by
  refine Run.of (by decide +kernel) (by show (1 : Nat) ≤ 2; decide) ?_
  show Ex G WM M_X12_aCrop 7 0 0 0 [(0, vA G 0)] [] σ Q
  refine R_sipush e_X12_aCrop_0.1 (by decide) ?_
  refine R_iconst e_X12_aCrop_0.2.1 ?_
  refine R_aload_n e_X12_aCrop_0.2.2.1 0 rfl ?_
  refine R_getA 12 0 1 e_X12_aCrop_0.2.2.2.1 f_X12_7 km_0 (fun _ _ => rfl) rm_0_0 (by decide) ?_
  refine R_sipush e_X12_aCrop_0.2.2.2.2.1 (by decide) ?_
  refine R_iald 3598 e_X12_aCrop_0.2.2.2.2.2.1 kma_1 (by decide) ?_
  refine R_imul e_X12_aCrop_0.2.2.2.2.2.2.1 ?_
  refine R_iadd e_X12_aCrop_0.2.2.2.2.2.2.2.1 ?_
  refine R_istore_n (ls2 := [(1, vI (2144 + (4 * (σ 1 2059)))), (0, vA G 0)]) e_X12_aCrop_0.2.2.2.2.2.2.2.2.1 (by decide) rfl ?_
  refine R_aload_n e_X12_aCrop_0.2.2.2.2.2.2.2.2.2 1 rfl ?_
  refine R_iconst e_X12_aCrop_1.1 ?_
  refine R_bipush e_X12_aCrop_1.2.1 (by decide) ?_
  refine R_bipush e_X12_aCrop_1.2.2.1 (by decide) ?_
  refine R_callV (mc := 0) (ms := 0) (mc' := 0) (ms' := 0) (M' := M_X12_newOne) (d' := 6) (as := [vI 3, vI 8, vI 6]) (st := []) 12 3 e_X12_aCrop_1.2.2.2.1 (kCVof m_X12_newOne l_X12_203) rfl (by decide) km_0 (by decide) (by decide) rfl rfl (by show (0 : Nat) ≤ 8; decide) ?_
  refine Run.mono h (fun r1 s2 h => ?_)
  refine R_eqs (st2 := [vI r1]) rfl rfl ?_
  obtain ⟨q3, h⟩ := h
  refine R_if_eq 59 e_X12_aCrop_1.2.2.2.2.1 (by decide) q3  (fun q => ?_) (fun q => ?_)
  · replace h := h.1 q
    refine R_iconst e_X12_aCrop_3.2.2.1 ?_
    exact R_zreturn e_X12_aCrop_3.2.2.2.1 rfl (Or.inl rfl) h
  · replace h := h.2 q
    refine R_aload_n e_X12_aCrop_1.2.2.2.2.2.1 1 rfl ?_
    refine R_iload_n e_X12_aCrop_1.2.2.2.2.2.2.1 0 rfl ?_
    refine R_callV (mc := 0) (ms := 0) (mc' := 0) (ms' := 0) (M' := M_X12_fieldTo) (d' := 6) (as := [vI (2144 + (4 * (σ 1 2059)))]) (st := []) 12 1 e_X12_aCrop_1.2.2.2.2.2.2.2.1 (kCVof m_X12_fieldTo l_X12_206) rfl (by decide) km_0 (by decide) (by decide) rfl rfl (by show (0 : Nat) ≤ 8; decide) ?_
    refine Run.mono h (fun r4 s5 h => ?_)
    refine R_eqs (st2 := [vI r4]) rfl rfl ?_
    obtain ⟨q6, h⟩ := h
    refine R_if_eq 59 e_X12_aCrop_1.2.2.2.2.2.2.2.2.1 (by decide) q6  (fun q => ?_) (fun q => ?_)
    · replace h := h.1 q
      refine R_iconst e_X12_aCrop_3.2.2.1 ?_
      exact R_zreturn e_X12_aCrop_3.2.2.2.1 rfl (Or.inl rfl) h
    · replace h := h.2 q
      refine R_aload_n e_X12_aCrop_1.2.2.2.2.2.2.2.2.2 1 rfl ?_
      refine R_ldcS (i := 28) (-38) e_X12_aCrop_2.1 rfl rfl ?_
      refine R_bipush e_X12_aCrop_2.2.1 (by decide) ?_
      refine R_callV (mc := 0) (ms := 0) (mc' := 0) (ms' := 0) (M' := M_X12_wantWord) (d' := 5) (as := [vA G (-38), vI 13]) (st := []) 12 2 e_X12_aCrop_2.2.2.1 (kCVof m_X12_wantWord l_X12_195) rfl (by decide) km_0 (by decide) (by decide) rfl rfl (by show (0 : Nat) ≤ 8; decide) ?_
      refine Run.mono h (fun r7 s8 h => ?_)
      refine R_eqs (st2 := [vI r7]) rfl rfl ?_
      obtain ⟨q9, h⟩ := h
      refine R_if_eq 59 e_X12_aCrop_2.2.2.2.1 (by decide) q9  (fun q => ?_) (fun q => ?_)
      · replace h := h.1 q
        refine R_iconst e_X12_aCrop_3.2.2.1 ?_
        exact R_zreturn e_X12_aCrop_3.2.2.2.1 rfl (Or.inl rfl) h
      · replace h := h.2 q
        refine R_aload_n e_X12_aCrop_2.2.2.2.2.1 1 rfl ?_
        refine R_iload_n e_X12_aCrop_2.2.2.2.2.2.1 0 rfl ?_
        refine R_iconst e_X12_aCrop_2.2.2.2.2.2.2.1 ?_
        refine R_iadd e_X12_aCrop_2.2.2.2.2.2.2.2.1 ?_
        refine R_iconst e_X12_aCrop_2.2.2.2.2.2.2.2.2.1 ?_
        refine R_bipush e_X12_aCrop_2.2.2.2.2.2.2.2.2.2 (by decide) ?_
        refine R_callV (mc := 0) (ms := 0) (mc' := 0) (ms' := 0) (M' := M_X12_number) (d' := 2) (as := [vI ((2144 + (4 * (σ 1 2059))) + 2), vI 1, vI 99]) (st := []) 12 3 e_X12_aCrop_3.1 (kCVof m_X12_number l_X12_199) rfl (by decide) km_0 (by decide) (by decide) rfl rfl (by show (0 : Nat) ≤ 8; decide) ?_
        refine Run.mono h (fun r10 s11 h => ?_)
        refine R_eqs (st2 := [vI r10]) rfl rfl ?_
        obtain ⟨q12, h⟩ := h
        refine R_if_ne 61 e_X12_aCrop_3.2.1 (by decide) q12  (fun q => ?_) (fun q => ?_)
        · replace h := h.1 q
          refine R_aload_n e_X12_aCrop_3.2.2.2.2.1 1 rfl ?_
          refine R_getA 12 0 1 e_X12_aCrop_3.2.2.2.2.2.1 f_X12_7 km_0 (fun _ _ => rfl) rm_0_0 (by decide) ?_
          refine R_sipush e_X12_aCrop_3.2.2.2.2.2.2.1 (by decide) ?_
          refine R_dup2 e_X12_aCrop_3.2.2.2.2.2.2.2.1 rfl rfl ?_
          refine R_iald 3598 e_X12_aCrop_3.2.2.2.2.2.2.2.2.1 kma_1 (by decide) ?_
          refine R_iconst e_X12_aCrop_3.2.2.2.2.2.2.2.2.2 ?_
          refine R_iadd e_X12_aCrop_4.1 ?_
          refine R_iast 3598 WM_ok e_X12_aCrop_4.2.1 kma_1 (by decide) ?_
          refine R_iconst e_X12_aCrop_4.2.2.1 ?_
          exact R_zreturn e_X12_aCrop_4.2.2.2 rfl (Or.inr rfl) h
        · replace h := h.2 q
          refine R_iconst e_X12_aCrop_3.2.2.1 ?_
          exact R_zreturn e_X12_aCrop_3.2.2.2.1 rfl (Or.inl rfl) h
/-! KiteLandModel.aTenant()Z -/
theorem e_X12_aTenant_0 : decode cX12_aTenant 0 = .ok (.sipush 2176, 3) ∧ decode cX12_aTenant 3 = .ok (.iconst 5, 1) ∧ decode cX12_aTenant 4 = .ok (.aload_n 0, 1) ∧ decode cX12_aTenant 5 = .ok (.getfield 7, 3) ∧ decode cX12_aTenant 8 = .ok (.sipush 2060, 3) ∧ decode cX12_aTenant 11 = .ok (.iaload, 1) ∧ decode cX12_aTenant 12 = .ok (.imul, 1) ∧ decode cX12_aTenant 13 = .ok (.iadd, 1) ∧ decode cX12_aTenant 14 = .ok (.istore_n 1, 1) ∧ decode cX12_aTenant 15 = .ok (.aload_n 0, 1) := by decide +kernel
theorem e_X12_aTenant_1 : decode cX12_aTenant 16 = .ok (.iconst 4, 1) ∧ decode cX12_aTenant 17 = .ok (.bipush 6, 2) ∧ decode cX12_aTenant 19 = .ok (.bipush 14, 2) ∧ decode cX12_aTenant 21 = .ok (.invokevirtual 203, 3) ∧ decode cX12_aTenant 24 = .ok (.ifCond .eq 42, 3) ∧ decode cX12_aTenant 27 = .ok (.aload_n 0, 1) ∧ decode cX12_aTenant 28 = .ok (.iload_n 1, 1) ∧ decode cX12_aTenant 29 = .ok (.invokevirtual 206, 3) ∧ decode cX12_aTenant 32 = .ok (.ifCond .eq 34, 3) ∧ decode cX12_aTenant 35 = .ok (.aload_n 0, 1) := by decide +kernel
theorem e_X12_aTenant_2 : decode cX12_aTenant 36 = .ok (.ldc 186, 2) ∧ decode cX12_aTenant 38 = .ok (.bipush 14, 2) ∧ decode cX12_aTenant 40 = .ok (.invokevirtual 195, 3) ∧ decode cX12_aTenant 43 = .ok (.ifCond .eq 23, 3) ∧ decode cX12_aTenant 46 = .ok (.aload_n 0, 1) ∧ decode cX12_aTenant 47 = .ok (.bipush 80, 2) ∧ decode cX12_aTenant 49 = .ok (.aload_n 0, 1) ∧ decode cX12_aTenant 50 = .ok (.getfield 7, 3) ∧ decode cX12_aTenant 53 = .ok (.sipush 2058, 3) ∧ decode cX12_aTenant 56 = .ok (.iaload, 1) := by decide +kernel
theorem e_X12_aTenant_3 : decode cX12_aTenant 57 = .ok (.iload_n 1, 1) ∧ decode cX12_aTenant 58 = .ok (.iconst 2, 1) ∧ decode cX12_aTenant 59 = .ok (.iadd, 1) ∧ decode cX12_aTenant 60 = .ok (.invokevirtual 212, 3) ∧ decode cX12_aTenant 63 = .ok (.ifCond .ne 5, 3) ∧ decode cX12_aTenant 66 = .ok (.iconst 0, 1) ∧ decode cX12_aTenant 67 = .ok (.ireturn, 1) ∧ decode cX12_aTenant 68 = .ok (.aload_n 0, 1) ∧ decode cX12_aTenant 69 = .ok (.getfield 7, 3) ∧ decode cX12_aTenant 72 = .ok (.sipush 2060, 3) := by decide +kernel
theorem e_X12_aTenant_4 : decode cX12_aTenant 75 = .ok (.dup2, 1) ∧ decode cX12_aTenant 76 = .ok (.iaload, 1) ∧ decode cX12_aTenant 77 = .ok (.iconst 1, 1) ∧ decode cX12_aTenant 78 = .ok (.iadd, 1) ∧ decode cX12_aTenant 79 = .ok (.iastore, 1) ∧ decode cX12_aTenant 80 = .ok (.iconst 1, 1) ∧ decode cX12_aTenant 81 = .ok (.ireturn, 1) := by decide +kernel
theorem S_X12_aTenant {G : Kg} {σ : Kmem} {Q : Int → Kmem → Prop}  (h : Run G WM M_X12_newOne 6 0 0 [vA G 0, vI 4, vI 6, vI 14] σ (fun r1 s2 => (rI r1) ∧ ((r1 = 0 → Q 0 s2) ∧ (r1 ≠ 0 → Run G WM M_X12_fieldTo 6 0 0 [vA G 0, vI (2176 + (5 * (σ 1 2060)))] s2 (fun r4 s5 => (rI r4) ∧ ((r4 = 0 → Q 0 s5) ∧ (r4 ≠ 0 → Run G WM M_X12_wantWord 5 0 0 [vA G 0, vA G (-38), vI 14] s5 (fun r7 s8 => (rI r7) ∧ ((r7 = 0 → Q 0 s8) ∧ (r7 ≠ 0 → Run G WM M_X12_oldOne 6 0 0 [vA G 0, vI 80, vI (s8 1 2058), vI ((2176 + (5 * (σ 1 2060))) + 2)] s8 (fun r10 s11 => (rI r10) ∧ ((r10 ≠ 0 → Q 1 (kup s11 1 2060 ((s11 1 2060) + 1))) ∧ (r10 = 0 → Q 0 s11))))))))))))) : Run G WM M_X12_aTenant 7 0 0 [vA G 0] σ Q := by
  refine Run.of (by decide +kernel) (by show (1 : Nat) ≤ 2; decide) ?_
  show Ex G WM M_X12_aTenant 7 0 0 0 [(0, vA G 0)] [] σ Q
  refine R_sipush e_X12_aTenant_0.1 (by decide) ?_
  refine R_iconst e_X12_aTenant_0.2.1 ?_
  refine R_aload_n e_X12_aTenant_0.2.2.1 0 rfl ?_
  refine R_getA 12 0 1 e_X12_aTenant_0.2.2.2.1 f_X12_7 km_0 (fun _ _ => rfl) rm_0_0 (by decide) ?_
  refine R_sipush e_X12_aTenant_0.2.2.2.2.1 (by decide) ?_
  refine R_iald 3598 e_X12_aTenant_0.2.2.2.2.2.1 kma_1 (by decide) ?_
  refine R_imul e_X12_aTenant_0.2.2.2.2.2.2.1 ?_
  refine R_iadd e_X12_aTenant_0.2.2.2.2.2.2.2.1 ?_
  refine R_istore_n (ls2 := [(1, vI (2176 + (5 * (σ 1 2060)))), (0, vA G 0)]) e_X12_aTenant_0.2.2.2.2.2.2.2.2.1 (by decide) rfl ?_
  refine R_aload_n e_X12_aTenant_0.2.2.2.2.2.2.2.2.2 1 rfl ?_
  refine R_iconst e_X12_aTenant_1.1 ?_
  refine R_bipush e_X12_aTenant_1.2.1 (by decide) ?_
  refine R_bipush e_X12_aTenant_1.2.2.1 (by decide) ?_
  refine R_callV (mc := 0) (ms := 0) (mc' := 0) (ms' := 0) (M' := M_X12_newOne) (d' := 6) (as := [vI 4, vI 6, vI 14]) (st := []) 12 3 e_X12_aTenant_1.2.2.2.1 (kCVof m_X12_newOne l_X12_203) rfl (by decide) km_0 (by decide) (by decide) rfl rfl (by show (0 : Nat) ≤ 8; decide) ?_
  refine Run.mono h (fun r1 s2 h => ?_)
  refine R_eqs (st2 := [vI r1]) rfl rfl ?_
  obtain ⟨q3, h⟩ := h
  refine R_if_eq 66 e_X12_aTenant_1.2.2.2.2.1 (by decide) q3  (fun q => ?_) (fun q => ?_)
  · replace h := h.1 q
    refine R_iconst e_X12_aTenant_3.2.2.2.2.2.1 ?_
    exact R_zreturn e_X12_aTenant_3.2.2.2.2.2.2.1 rfl (Or.inl rfl) h
  · replace h := h.2 q
    refine R_aload_n e_X12_aTenant_1.2.2.2.2.2.1 1 rfl ?_
    refine R_iload_n e_X12_aTenant_1.2.2.2.2.2.2.1 0 rfl ?_
    refine R_callV (mc := 0) (ms := 0) (mc' := 0) (ms' := 0) (M' := M_X12_fieldTo) (d' := 6) (as := [vI (2176 + (5 * (σ 1 2060)))]) (st := []) 12 1 e_X12_aTenant_1.2.2.2.2.2.2.2.1 (kCVof m_X12_fieldTo l_X12_206) rfl (by decide) km_0 (by decide) (by decide) rfl rfl (by show (0 : Nat) ≤ 8; decide) ?_
    refine Run.mono h (fun r4 s5 h => ?_)
    refine R_eqs (st2 := [vI r4]) rfl rfl ?_
    obtain ⟨q6, h⟩ := h
    refine R_if_eq 66 e_X12_aTenant_1.2.2.2.2.2.2.2.2.1 (by decide) q6  (fun q => ?_) (fun q => ?_)
    · replace h := h.1 q
      refine R_iconst e_X12_aTenant_3.2.2.2.2.2.1 ?_
      exact R_zreturn e_X12_aTenant_3.2.2.2.2.2.2.1 rfl (Or.inl rfl) h
    · replace h := h.2 q
      refine R_aload_n e_X12_aTenant_1.2.2.2.2.2.2.2.2.2 1 rfl ?_
      refine R_ldcS (i := 28) (-38) e_X12_aTenant_2.1 rfl rfl ?_
      refine R_bipush e_X12_aTenant_2.2.1 (by decide) ?_
      refine R_callV (mc := 0) (ms := 0) (mc' := 0) (ms' := 0) (M' := M_X12_wantWord) (d' := 5) (as := [vA G (-38), vI 14]) (st := []) 12 2 e_X12_aTenant_2.2.2.1 (kCVof m_X12_wantWord l_X12_195) rfl (by decide) km_0 (by decide) (by decide) rfl rfl (by show (0 : Nat) ≤ 8; decide) ?_
      refine Run.mono h (fun r7 s8 h => ?_)
      refine R_eqs (st2 := [vI r7]) rfl rfl ?_
      obtain ⟨q9, h⟩ := h
      refine R_if_eq 66 e_X12_aTenant_2.2.2.2.1 (by decide) q9  (fun q => ?_) (fun q => ?_)
      · replace h := h.1 q
        refine R_iconst e_X12_aTenant_3.2.2.2.2.2.1 ?_
        exact R_zreturn e_X12_aTenant_3.2.2.2.2.2.2.1 rfl (Or.inl rfl) h
      · replace h := h.2 q
        refine R_aload_n e_X12_aTenant_2.2.2.2.2.1 1 rfl ?_
        refine R_bipush e_X12_aTenant_2.2.2.2.2.2.1 (by decide) ?_
        refine R_aload_n e_X12_aTenant_2.2.2.2.2.2.2.1 1 rfl ?_
        refine R_getA 12 0 1 e_X12_aTenant_2.2.2.2.2.2.2.2.1 f_X12_7 km_0 (fun _ _ => rfl) rm_0_0 (by decide) ?_
        refine R_sipush e_X12_aTenant_2.2.2.2.2.2.2.2.2.1 (by decide) ?_
        refine R_iald 3598 e_X12_aTenant_2.2.2.2.2.2.2.2.2.2 kma_1 (by decide) ?_
        refine R_iload_n e_X12_aTenant_3.1 0 rfl ?_
        refine R_iconst e_X12_aTenant_3.2.1 ?_
        refine R_iadd e_X12_aTenant_3.2.2.1 ?_
        refine R_callV (mc := 0) (ms := 0) (mc' := 0) (ms' := 0) (M' := M_X12_oldOne) (d' := 6) (as := [vI 80, vI (s8 1 2058), vI ((2176 + (5 * (σ 1 2060))) + 2)]) (st := []) 12 3 e_X12_aTenant_3.2.2.2.1 (kCVof m_X12_oldOne l_X12_212) rfl (by decide) km_0 (by decide) (by decide) rfl rfl (by show (0 : Nat) ≤ 8; decide) ?_
        refine Run.mono h (fun r10 s11 h => ?_)
        refine R_eqs (st2 := [vI r10]) rfl rfl ?_
        obtain ⟨q12, h⟩ := h
        refine R_if_ne 68 e_X12_aTenant_3.2.2.2.2.1 (by decide) q12  (fun q => ?_) (fun q => ?_)
        · replace h := h.1 q
          refine R_aload_n e_X12_aTenant_3.2.2.2.2.2.2.2.1 1 rfl ?_
          refine R_getA 12 0 1 e_X12_aTenant_3.2.2.2.2.2.2.2.2.1 f_X12_7 km_0 (fun _ _ => rfl) rm_0_0 (by decide) ?_
          refine R_sipush e_X12_aTenant_3.2.2.2.2.2.2.2.2.2 (by decide) ?_
          refine R_dup2 e_X12_aTenant_4.1 rfl rfl ?_
          refine R_iald 3598 e_X12_aTenant_4.2.1 kma_1 (by decide) ?_
          refine R_iconst e_X12_aTenant_4.2.2.1 ?_
          refine R_iadd e_X12_aTenant_4.2.2.2.1 ?_
          refine R_iast 3598 WM_ok e_X12_aTenant_4.2.2.2.2.1 kma_1 (by decide) ?_
          refine R_iconst e_X12_aTenant_4.2.2.2.2.2.1 ?_
          exact R_zreturn e_X12_aTenant_4.2.2.2.2.2.2 rfl (Or.inr rfl) h
        · replace h := h.2 q
          refine R_iconst e_X12_aTenant_3.2.2.2.2.2.1 ?_
          exact R_zreturn e_X12_aTenant_3.2.2.2.2.2.2.1 rfl (Or.inl rfl) h
/-! KiteLandModel.theLand()Z -/
theorem e_X12_theLand_0 : decode cX12_theLand 0 = .ok (.aload_n 0, 1) ∧ decode cX12_theLand 1 = .ok (.invokevirtual 169, 3) ∧ decode cX12_theLand 4 = .ok (.aload_n 0, 1) ∧ decode cX12_theLand 5 = .ok (.sipush 2056, 3) ∧ decode cX12_theLand 8 = .ok (.iconst 1, 1) ∧ decode cX12_theLand 9 = .ok (.bipush 9, 2) ∧ decode cX12_theLand 11 = .ok (.invokevirtual 199, 3) ∧ decode cX12_theLand 14 = .ok (.ifCond .eq 31, 3) ∧ decode cX12_theLand 17 = .ok (.aload_n 0, 1) ∧ decode cX12_theLand 18 = .ok (.ldc 186, 2) := by decide +kernel
theorem e_X12_theLand_1 : decode cX12_theLand 20 = .ok (.bipush 7, 2) ∧ decode cX12_theLand 22 = .ok (.invokevirtual 195, 3) ∧ decode cX12_theLand 25 = .ok (.ifCond .eq 20, 3) ∧ decode cX12_theLand 28 = .ok (.aload_n 0, 1) ∧ decode cX12_theLand 29 = .ok (.sipush 2057, 3) ∧ decode cX12_theLand 32 = .ok (.iconst 1, 1) ∧ decode cX12_theLand 33 = .ok (.bipush 7, 2) ∧ decode cX12_theLand 35 = .ok (.invokevirtual 199, 3) ∧ decode cX12_theLand 38 = .ok (.ifCond .eq 7, 3) ∧ decode cX12_theLand 41 = .ok (.iconst 1, 1) := by decide +kernel
theorem e_X12_theLand_2 : decode cX12_theLand 42 = .ok (.goto 4, 3) ∧ decode cX12_theLand 45 = .ok (.iconst 0, 1) ∧ decode cX12_theLand 46 = .ok (.ireturn, 1) := by decide +kernel
theorem S_X12_theLand {G : Kg} {σ : Kmem} {Q : Int → Kmem → Prop}  (h : Run G WM M_X12_ahead 1 0 0 [vA G 0] σ (fun r1 s2 => Run G WM M_X12_number 2 0 0 [vA G 0, vI 2056, vI 1, vI 9] s2 (fun r3 s4 => (rI r3) ∧ ((r3 = 0 → Q 0 s4) ∧ (r3 ≠ 0 → Run G WM M_X12_wantWord 5 0 0 [vA G 0, vA G (-38), vI 7] s4 (fun r6 s7 => (rI r6) ∧ ((r6 = 0 → Q 0 s7) ∧ (r6 ≠ 0 → Run G WM M_X12_number 2 0 0 [vA G 0, vI 2057, vI 1, vI 7] s7 (fun r9 s10 => (rI r9) ∧ ((r9 = 0 → Q 0 s10) ∧ (r9 ≠ 0 → Q 1 s10))))))))))) : Run G WM M_X12_theLand 6 0 0 [vA G 0] σ Q := by
  refine Run.of (by decide +kernel) (by show (1 : Nat) ≤ 1; decide) ?_
  show Ex G WM M_X12_theLand 6 0 0 0 [(0, vA G 0)] [] σ Q
  refine R_aload_n e_X12_theLand_0.1 0 rfl ?_
  refine R_callV (mc := 0) (ms := 0) (mc' := 0) (ms' := 0) (M' := M_X12_ahead) (d' := 1) (as := []) (st := []) 12 0 e_X12_theLand_0.2.1 (kCVof m_X12_ahead l_X12_169) rfl (by decide) km_0 (by decide) (by decide) rfl rfl (by show (0 : Nat) ≤ 8; decide) ?_
  refine Run.mono h (fun r1 s2 h => ?_)
  refine R_eqs (st2 := []) rfl rfl ?_
  refine R_aload_n e_X12_theLand_0.2.2.1 0 rfl ?_
  refine R_sipush e_X12_theLand_0.2.2.2.1 (by decide) ?_
  refine R_iconst e_X12_theLand_0.2.2.2.2.1 ?_
  refine R_bipush e_X12_theLand_0.2.2.2.2.2.1 (by decide) ?_
  refine R_callV (mc := 0) (ms := 0) (mc' := 0) (ms' := 0) (M' := M_X12_number) (d' := 2) (as := [vI 2056, vI 1, vI 9]) (st := []) 12 3 e_X12_theLand_0.2.2.2.2.2.2.1 (kCVof m_X12_number l_X12_199) rfl (by decide) km_0 (by decide) (by decide) rfl rfl (by show (0 : Nat) ≤ 8; decide) ?_
  refine Run.mono h (fun r3 s4 h => ?_)
  refine R_eqs (st2 := [vI r3]) rfl rfl ?_
  obtain ⟨q5, h⟩ := h
  refine R_if_eq 45 e_X12_theLand_0.2.2.2.2.2.2.2.1 (by decide) q5  (fun q => ?_) (fun q => ?_)
  · replace h := h.1 q
    refine R_iconst e_X12_theLand_2.2.1 ?_
    exact R_zreturn e_X12_theLand_2.2.2 rfl (Or.inl rfl) h
  · replace h := h.2 q
    refine R_aload_n e_X12_theLand_0.2.2.2.2.2.2.2.2.1 0 rfl ?_
    refine R_ldcS (i := 28) (-38) e_X12_theLand_0.2.2.2.2.2.2.2.2.2 rfl rfl ?_
    refine R_bipush e_X12_theLand_1.1 (by decide) ?_
    refine R_callV (mc := 0) (ms := 0) (mc' := 0) (ms' := 0) (M' := M_X12_wantWord) (d' := 5) (as := [vA G (-38), vI 7]) (st := []) 12 2 e_X12_theLand_1.2.1 (kCVof m_X12_wantWord l_X12_195) rfl (by decide) km_0 (by decide) (by decide) rfl rfl (by show (0 : Nat) ≤ 8; decide) ?_
    refine Run.mono h (fun r6 s7 h => ?_)
    refine R_eqs (st2 := [vI r6]) rfl rfl ?_
    obtain ⟨q8, h⟩ := h
    refine R_if_eq 45 e_X12_theLand_1.2.2.1 (by decide) q8  (fun q => ?_) (fun q => ?_)
    · replace h := h.1 q
      refine R_iconst e_X12_theLand_2.2.1 ?_
      exact R_zreturn e_X12_theLand_2.2.2 rfl (Or.inl rfl) h
    · replace h := h.2 q
      refine R_aload_n e_X12_theLand_1.2.2.2.1 0 rfl ?_
      refine R_sipush e_X12_theLand_1.2.2.2.2.1 (by decide) ?_
      refine R_iconst e_X12_theLand_1.2.2.2.2.2.1 ?_
      refine R_bipush e_X12_theLand_1.2.2.2.2.2.2.1 (by decide) ?_
      refine R_callV (mc := 0) (ms := 0) (mc' := 0) (ms' := 0) (M' := M_X12_number) (d' := 2) (as := [vI 2057, vI 1, vI 7]) (st := []) 12 3 e_X12_theLand_1.2.2.2.2.2.2.2.1 (kCVof m_X12_number l_X12_199) rfl (by decide) km_0 (by decide) (by decide) rfl rfl (by show (0 : Nat) ≤ 8; decide) ?_
      refine Run.mono h (fun r9 s10 h => ?_)
      refine R_eqs (st2 := [vI r9]) rfl rfl ?_
      obtain ⟨q11, h⟩ := h
      refine R_if_eq 45 e_X12_theLand_1.2.2.2.2.2.2.2.2.1 (by decide) q11  (fun q => ?_) (fun q => ?_)
      · replace h := h.1 q
        refine R_iconst e_X12_theLand_2.2.1 ?_
        exact R_zreturn e_X12_theLand_2.2.2 rfl (Or.inl rfl) h
      · replace h := h.2 q
        refine R_iconst e_X12_theLand_1.2.2.2.2.2.2.2.2.2 ?_
        refine R_goto 46 e_X12_theLand_2.1 (by decide) ?_
        exact R_zreturn e_X12_theLand_2.2.2 rfl (Or.inr rfl) h
/-! KiteLandModel.countyPart()Z -/
theorem e_X12_countyPart_0 : decode cX12_countyPart 0 = .ok (.aload_n 0, 1) ∧ decode cX12_countyPart 1 = .ok (.ldc 186, 2) ∧ decode cX12_countyPart 3 = .ok (.invokevirtual 178, 3) ∧ decode cX12_countyPart 6 = .ok (.istore_n 1, 1) ∧ decode cX12_countyPart 7 = .ok (.iload_n 1, 1) ∧ decode cX12_countyPart 8 = .ok (.ifCond .lt 22, 3) ∧ decode cX12_countyPart 11 = .ok (.iload_n 1, 1) ∧ decode cX12_countyPart 12 = .ok (.bipush 6, 2) ∧ decode cX12_countyPart 14 = .ok (.if_icmp .gt 16, 3) ∧ decode cX12_countyPart 17 = .ok (.iload_n 1, 1) := by decide +kernel
theorem e_X12_countyPart_1 : decode cX12_countyPart 18 = .ok (.ifCond .eq 18, 3) ∧ decode cX12_countyPart 21 = .ok (.aload_n 0, 1) ∧ decode cX12_countyPart 22 = .ok (.getfield 215, 3) ∧ decode cX12_countyPart 25 = .ok (.iconst 1, 1) ∧ decode cX12_countyPart 26 = .ok (.iand, 1) ∧ decode cX12_countyPart 27 = .ok (.ifCond .ne 9, 3) ∧ decode cX12_countyPart 30 = .ok (.aload_n 0, 1) ∧ decode cX12_countyPart 31 = .ok (.iconst 2, 1) ∧ decode cX12_countyPart 32 = .ok (.invokevirtual 175, 3) ∧ decode cX12_countyPart 35 = .ok (.ireturn, 1) := by decide +kernel
theorem e_X12_countyPart_2 : decode cX12_countyPart 36 = .ok (.aload_n 0, 1) ∧ decode cX12_countyPart 37 = .ok (.getfield 215, 3) ∧ decode cX12_countyPart 40 = .ok (.iload_n 1, 1) ∧ decode cX12_countyPart 41 = .ok (.ishr, 1) ∧ decode cX12_countyPart 42 = .ok (.iconst 1, 1) ∧ decode cX12_countyPart 43 = .ok (.iand, 1) ∧ decode cX12_countyPart 44 = .ok (.iconst 1, 1) ∧ decode cX12_countyPart 45 = .ok (.if_icmp .ne 9, 3) ∧ decode cX12_countyPart 48 = .ok (.aload_n 0, 1) ∧ decode cX12_countyPart 49 = .ok (.iconst 5, 1) := by decide +kernel
theorem e_X12_countyPart_3 : decode cX12_countyPart 50 = .ok (.invokevirtual 175, 3) ∧ decode cX12_countyPart 53 = .ok (.ireturn, 1) ∧ decode cX12_countyPart 54 = .ok (.aload_n 0, 1) ∧ decode cX12_countyPart 55 = .ok (.dup, 1) ∧ decode cX12_countyPart 56 = .ok (.getfield 215, 3) ∧ decode cX12_countyPart 59 = .ok (.iload_n 1, 1) ∧ decode cX12_countyPart 60 = .ok (.ifCond .eq 13, 3) ∧ decode cX12_countyPart 63 = .ok (.iload_n 1, 1) ∧ decode cX12_countyPart 64 = .ok (.iconst 2, 1) ∧ decode cX12_countyPart 65 = .ok (.if_icmp .eq 8, 3) := by decide +kernel
theorem e_X12_countyPart_4 : decode cX12_countyPart 68 = .ok (.iload_n 1, 1) ∧ decode cX12_countyPart 69 = .ok (.iconst 3, 1) ∧ decode cX12_countyPart 70 = .ok (.if_icmp .ne 9, 3) ∧ decode cX12_countyPart 73 = .ok (.iconst 1, 1) ∧ decode cX12_countyPart 74 = .ok (.iload_n 1, 1) ∧ decode cX12_countyPart 75 = .ok (.ishl, 1) ∧ decode cX12_countyPart 76 = .ok (.goto 4, 3) ∧ decode cX12_countyPart 79 = .ok (.iconst 0, 1) ∧ decode cX12_countyPart 80 = .ok (.ior, 1) ∧ decode cX12_countyPart 81 = .ok (.putfield 215, 3) := by decide +kernel
theorem e_X12_countyPart_5 : decode cX12_countyPart 84 = .ok (.iload_n 1, 1) ∧ decode cX12_countyPart 85 = .ok (.tableswitch 110 0 5 #[39, 47, 55, 55, 94, 102], 39) ∧ decode cX12_countyPart 124 = .ok (.aload_n 0, 1) ∧ decode cX12_countyPart 125 = .ok (.invokevirtual 218, 3) ∧ decode cX12_countyPart 128 = .ok (.istore_n 2, 1) ∧ decode cX12_countyPart 129 = .ok (.goto 71, 3) ∧ decode cX12_countyPart 132 = .ok (.aload_n 0, 1) ∧ decode cX12_countyPart 133 = .ok (.invokevirtual 222, 3) ∧ decode cX12_countyPart 136 = .ok (.istore_n 2, 1) ∧ decode cX12_countyPart 137 = .ok (.goto 63, 3) := by decide +kernel
theorem e_X12_countyPart_6 : decode cX12_countyPart 140 = .ok (.aload_n 0, 1) ∧ decode cX12_countyPart 141 = .ok (.invokevirtual 169, 3) ∧ decode cX12_countyPart 144 = .ok (.aload_n 0, 1) ∧ decode cX12_countyPart 145 = .ok (.sipush 2056, 3) ∧ decode cX12_countyPart 148 = .ok (.iload_n 1, 1) ∧ decode cX12_countyPart 149 = .ok (.iconst 2, 1) ∧ decode cX12_countyPart 150 = .ok (.if_icmp .ne 7, 3) ∧ decode cX12_countyPart 153 = .ok (.iconst 5, 1) ∧ decode cX12_countyPart 154 = .ok (.goto 5, 3) ∧ decode cX12_countyPart 157 = .ok (.bipush 6, 2) := by decide +kernel
theorem e_X12_countyPart_7 : decode cX12_countyPart 159 = .ok (.iadd, 1) ∧ decode cX12_countyPart 160 = .ok (.iconst 0, 1) ∧ decode cX12_countyPart 161 = .ok (.iload_n 1, 1) ∧ decode cX12_countyPart 162 = .ok (.iconst 2, 1) ∧ decode cX12_countyPart 163 = .ok (.if_icmp .ne 8, 3) ∧ decode cX12_countyPart 166 = .ok (.bipush 11, 2) ∧ decode cX12_countyPart 168 = .ok (.goto 4, 3) ∧ decode cX12_countyPart 171 = .ok (.iconst 2, 1) ∧ decode cX12_countyPart 172 = .ok (.invokevirtual 199, 3) ∧ decode cX12_countyPart 175 = .ok (.istore_n 2, 1) := by decide +kernel
theorem e_X12_countyPart_8 : decode cX12_countyPart 176 = .ok (.goto 24, 3) ∧ decode cX12_countyPart 179 = .ok (.aload_n 0, 1) ∧ decode cX12_countyPart 180 = .ok (.invokevirtual 225, 3) ∧ decode cX12_countyPart 183 = .ok (.istore_n 2, 1) ∧ decode cX12_countyPart 184 = .ok (.goto 16, 3) ∧ decode cX12_countyPart 187 = .ok (.aload_n 0, 1) ∧ decode cX12_countyPart 188 = .ok (.invokevirtual 228, 3) ∧ decode cX12_countyPart 191 = .ok (.istore_n 2, 1) ∧ decode cX12_countyPart 192 = .ok (.goto 8, 3) ∧ decode cX12_countyPart 195 = .ok (.aload_n 0, 1) := by decide +kernel
theorem e_X12_countyPart_9 : decode cX12_countyPart 196 = .ok (.invokevirtual 231, 3) ∧ decode cX12_countyPart 199 = .ok (.istore_n 2, 1) ∧ decode cX12_countyPart 200 = .ok (.iload_n 2, 1) ∧ decode cX12_countyPart 201 = .ok (.ifCond .eq 16, 3) ∧ decode cX12_countyPart 204 = .ok (.aload_n 0, 1) ∧ decode cX12_countyPart 205 = .ok (.bipush 59, 2) ∧ decode cX12_countyPart 207 = .ok (.invokevirtual 234, 3) ∧ decode cX12_countyPart 210 = .ok (.ifCond .eq 7, 3) ∧ decode cX12_countyPart 213 = .ok (.iconst 1, 1) ∧ decode cX12_countyPart 214 = .ok (.goto 4, 3) := by decide +kernel
theorem e_X12_countyPart_10 : decode cX12_countyPart 217 = .ok (.iconst 0, 1) ∧ decode cX12_countyPart 218 = .ok (.ireturn, 1) := by decide +kernel
abbrev E_X12_countyPart_36 (G : Kg) (l1 : Int) (σ : Kmem) (Q : Int → Kmem → Prop) : Prop := Ex G WM M_X12_countyPart 8 0 0 36 [(0, vA G 0), (1, vI l1)] [] σ Q
abbrev E_X12_countyPart_80 (G : Kg) (l1 p0 p1 : Int) (σ : Kmem) (Q : Int → Kmem → Prop) : Prop := Ex G WM M_X12_countyPart 8 0 0 80 [(0, vA G 0), (1, vI l1)] [vI p0, vI p1, vA G 0] σ Q
abbrev E_X12_countyPart_159 (G : Kg) (l1 p0 p1 : Int) (σ : Kmem) (Q : Int → Kmem → Prop) : Prop := Ex G WM M_X12_countyPart 8 0 0 159 [(0, vA G 0), (1, vI l1)] [vI p0, vI p1, vA G 0] σ Q
theorem S_X12_countyPart {G : Kg} {σ : Kmem} {Q : Int → Kmem → Prop}  (h : Run G WM M_X12_inWords 4 0 0 [vA G 0, vA G (-38)] σ (fun r1 s2 => (rI r1) ∧ ((r1 < 0 → Run G WM M_X12_fails 0 0 0 [vA G 0, vI 2] s2 (fun r4 s5 => (r4 = 0 ∨ r4 = 1) ∧ Q r4 s5)) ∧ (0 ≤ r1 → ((6 < r1 → Run G WM M_X12_fails 0 0 0 [vA G 0, vI 2] s2 (fun r7 s8 => (r7 = 0 ∨ r7 = 1) ∧ Q r7 s8)) ∧ (r1 ≤ 6 → ((r1 = 0 → E_X12_countyPart_36 G r1 s2 Q) ∧ (r1 ≠ 0 → (rI (kand (s2 0 20) 1)) ∧ ((kand (s2 0 20) 1 ≠ 0 → E_X12_countyPart_36 G r1 s2 Q) ∧ (kand (s2 0 20) 1 = 0 → Run G WM M_X12_fails 0 0 0 [vA G 0, vI 2] s2 (fun r11 s12 => (r11 = 0 ∨ r11 = 1) ∧ Q r11 s12))))))))))) : Run G WM M_X12_countyPart 8 0 0 [vA G 0] σ Q := by
  refine Run.of (by decide +kernel) (by show (1 : Nat) ≤ 3; decide) ?_
  show Ex G WM M_X12_countyPart 8 0 0 0 [(0, vA G 0)] [] σ Q
  refine R_aload_n e_X12_countyPart_0.1 0 rfl ?_
  refine R_ldcS (i := 28) (-38) e_X12_countyPart_0.2.1 rfl rfl ?_
  refine R_callV (mc := 0) (ms := 0) (mc' := 0) (ms' := 0) (M' := M_X12_inWords) (d' := 4) (as := [vA G (-38)]) (st := []) 12 1 e_X12_countyPart_0.2.2.1 (kCVof m_X12_inWords l_X12_178) rfl (by decide) km_0 (by decide) (by decide) rfl rfl (by show (0 : Nat) ≤ 8; decide) ?_
  refine Run.mono h (fun r1 s2 h => ?_)
  refine R_eqs (st2 := [vI r1]) rfl rfl ?_
  refine R_istore_n (ls2 := [(1, vI r1), (0, vA G 0)]) e_X12_countyPart_0.2.2.2.1 (by decide) rfl ?_
  refine R_iload_n e_X12_countyPart_0.2.2.2.2.1 0 rfl ?_
  obtain ⟨q3, h⟩ := h
  refine R_if_lt 30 e_X12_countyPart_0.2.2.2.2.2.1 (by decide) q3  (fun q => ?_) (fun q => ?_)
  · replace h := h.1 q
    refine R_aload_n e_X12_countyPart_1.2.2.2.2.2.2.1 1 rfl ?_
    refine R_iconst e_X12_countyPart_1.2.2.2.2.2.2.2.1 ?_
    refine R_callV (mc := 0) (ms := 0) (mc' := 0) (ms' := 0) (M' := M_X12_fails) (d' := 0) (as := [vI 2]) (st := []) 12 1 e_X12_countyPart_1.2.2.2.2.2.2.2.2.1 (kCVof m_X12_fails l_X12_175) rfl (by decide) km_0 (by decide) (by decide) rfl rfl (by show (0 : Nat) ≤ 8; decide) ?_
    refine Run.mono h (fun r4 s5 h => ?_)
    refine R_eqs (st2 := [vI r4]) rfl rfl ?_
    obtain ⟨q6, h⟩ := h
    exact R_zreturn e_X12_countyPart_1.2.2.2.2.2.2.2.2.2 rfl q6 h
  · replace h := h.2 q
    refine R_iload_n e_X12_countyPart_0.2.2.2.2.2.2.1 0 rfl ?_
    refine R_bipush e_X12_countyPart_0.2.2.2.2.2.2.2.1 (by decide) ?_
    refine R_icmp_gt 30 e_X12_countyPart_0.2.2.2.2.2.2.2.2.1 (by decide) q3 (by decide) (fun q => ?_) (fun q => ?_)
    · replace h := h.1 q
      refine R_aload_n e_X12_countyPart_1.2.2.2.2.2.2.1 1 rfl ?_
      refine R_iconst e_X12_countyPart_1.2.2.2.2.2.2.2.1 ?_
      refine R_callV (mc := 0) (ms := 0) (mc' := 0) (ms' := 0) (M' := M_X12_fails) (d' := 0) (as := [vI 2]) (st := []) 12 1 e_X12_countyPart_1.2.2.2.2.2.2.2.2.1 (kCVof m_X12_fails l_X12_175) rfl (by decide) km_0 (by decide) (by decide) rfl rfl (by show (0 : Nat) ≤ 8; decide) ?_
      refine Run.mono h (fun r7 s8 h => ?_)
      refine R_eqs (st2 := [vI r7]) rfl rfl ?_
      obtain ⟨q9, h⟩ := h
      exact R_zreturn e_X12_countyPart_1.2.2.2.2.2.2.2.2.2 rfl q9 h
    · replace h := h.2 q
      refine R_iload_n e_X12_countyPart_0.2.2.2.2.2.2.2.2.2 0 rfl ?_
      refine R_if_eq 36 e_X12_countyPart_1.1 (by decide) q3  (fun q => ?_) (fun q => ?_)
      · replace h := h.1 q
        refine R_ls (ls2 := [(0, vA G 0), (1, vI r1)]) [1, 0] rfl ?_
        exact h
      · replace h := h.2 q
        refine R_aload_n e_X12_countyPart_1.2.1 1 rfl ?_
        refine R_getI 12 20 20 e_X12_countyPart_1.2.2.1 f_X12_215 km_0 (fun _ _ => rfl) rfl ?_
        refine R_iconst e_X12_countyPart_1.2.2.2.1 ?_
        refine R_iand e_X12_countyPart_1.2.2.2.2.1 ?_
        obtain ⟨q10, h⟩ := h
        refine R_if_ne 36 e_X12_countyPart_1.2.2.2.2.2.1 (by decide) q10  (fun q => ?_) (fun q => ?_)
        · replace h := h.1 q
          refine R_ls (ls2 := [(0, vA G 0), (1, vI r1)]) [1, 0] rfl ?_
          exact h
        · replace h := h.2 q
          refine R_aload_n e_X12_countyPart_1.2.2.2.2.2.2.1 1 rfl ?_
          refine R_iconst e_X12_countyPart_1.2.2.2.2.2.2.2.1 ?_
          refine R_callV (mc := 0) (ms := 0) (mc' := 0) (ms' := 0) (M' := M_X12_fails) (d' := 0) (as := [vI 2]) (st := []) 12 1 e_X12_countyPart_1.2.2.2.2.2.2.2.2.1 (kCVof m_X12_fails l_X12_175) rfl (by decide) km_0 (by decide) (by decide) rfl rfl (by show (0 : Nat) ≤ 8; decide) ?_
          refine Run.mono h (fun r11 s12 h => ?_)
          refine R_eqs (st2 := [vI r11]) rfl rfl ?_
          obtain ⟨q13, h⟩ := h
          exact R_zreturn e_X12_countyPart_1.2.2.2.2.2.2.2.2.2 rfl q13 h
theorem S_X12_countyPart_36 {G : Kg} {σ : Kmem} {Q : Int → Kmem → Prop} {l1 : Int}  (h : (rI (kand (kshr (σ 0 20) l1) 1)) ∧ ((kand (kshr (σ 0 20) l1) 1 ≠ 1 → (rI l1) ∧ ((l1 = 0 → E_X12_countyPart_80 G l1 (kshl 1 l1) (σ 0 20) σ Q) ∧ (l1 ≠ 0 → ((l1 = 2 → E_X12_countyPart_80 G l1 (kshl 1 l1) (σ 0 20) σ Q) ∧ (l1 ≠ 2 → ((l1 ≠ 3 → E_X12_countyPart_80 G l1 0 (σ 0 20) σ Q) ∧ (l1 = 3 → E_X12_countyPart_80 G l1 (kshl 1 l1) (σ 0 20) σ Q))))))) ∧ (kand (kshr (σ 0 20) l1) 1 = 1 → Run G WM M_X12_fails 0 0 0 [vA G 0, vI 5] σ (fun r16 s17 => (r16 = 0 ∨ r16 = 1) ∧ Q r16 s17)))) : E_X12_countyPart_36 G l1 σ Q := by
  refine R_aload_n e_X12_countyPart_2.1 0 rfl ?_
  refine R_getI 12 20 20 e_X12_countyPart_2.2.1 f_X12_215 km_0 (fun _ _ => rfl) rfl ?_
  refine R_iload_n e_X12_countyPart_2.2.2.1 1 rfl ?_
  refine R_ishr e_X12_countyPart_2.2.2.2.1 ?_
  refine R_iconst e_X12_countyPart_2.2.2.2.2.1 ?_
  refine R_iand e_X12_countyPart_2.2.2.2.2.2.1 ?_
  refine R_iconst e_X12_countyPart_2.2.2.2.2.2.2.1 ?_
  obtain ⟨q14, h⟩ := h
  refine R_icmp_ne 54 e_X12_countyPart_2.2.2.2.2.2.2.2.1 (by decide) q14 (by decide) (fun q => ?_) (fun q => ?_)
  · replace h := h.1 q
    refine R_aload_n e_X12_countyPart_3.2.2.1 0 rfl ?_
    refine R_dup e_X12_countyPart_3.2.2.2.1 rfl ?_
    refine R_getI 12 20 20 e_X12_countyPart_3.2.2.2.2.1 f_X12_215 km_0 (fun _ _ => rfl) rfl ?_
    refine R_iload_n e_X12_countyPart_3.2.2.2.2.2.1 1 rfl ?_
    obtain ⟨q15, h⟩ := h
    refine R_if_eq 73 e_X12_countyPart_3.2.2.2.2.2.2.1 (by decide) q15  (fun q => ?_) (fun q => ?_)
    · replace h := h.1 q
      refine R_iconst e_X12_countyPart_4.2.2.2.1 ?_
      refine R_iload_n e_X12_countyPart_4.2.2.2.2.1 1 rfl ?_
      refine R_ishl e_X12_countyPart_4.2.2.2.2.2.1 ?_
      refine R_goto 80 e_X12_countyPart_4.2.2.2.2.2.2.1 (by decide) ?_
      refine R_ls (ls2 := [(0, vA G 0), (1, vI l1)]) [0, 1] rfl ?_
      exact h
    · replace h := h.2 q
      refine R_iload_n e_X12_countyPart_3.2.2.2.2.2.2.2.1 1 rfl ?_
      refine R_iconst e_X12_countyPart_3.2.2.2.2.2.2.2.2.1 ?_
      refine R_icmp_eq 73 e_X12_countyPart_3.2.2.2.2.2.2.2.2.2 (by decide) q15 (by decide) (fun q => ?_) (fun q => ?_)
      · replace h := h.1 q
        refine R_iconst e_X12_countyPart_4.2.2.2.1 ?_
        refine R_iload_n e_X12_countyPart_4.2.2.2.2.1 1 rfl ?_
        refine R_ishl e_X12_countyPart_4.2.2.2.2.2.1 ?_
        refine R_goto 80 e_X12_countyPart_4.2.2.2.2.2.2.1 (by decide) ?_
        refine R_ls (ls2 := [(0, vA G 0), (1, vI l1)]) [0, 1] rfl ?_
        exact h
      · replace h := h.2 q
        refine R_iload_n e_X12_countyPart_4.1 1 rfl ?_
        refine R_iconst e_X12_countyPart_4.2.1 ?_
        refine R_icmp_ne 79 e_X12_countyPart_4.2.2.1 (by decide) q15 (by decide) (fun q => ?_) (fun q => ?_)
        · replace h := h.1 q
          refine R_iconst e_X12_countyPart_4.2.2.2.2.2.2.2.1 ?_
          refine R_ls (ls2 := [(0, vA G 0), (1, vI l1)]) [0, 1] rfl ?_
          exact h
        · replace h := h.2 q
          refine R_iconst e_X12_countyPart_4.2.2.2.1 ?_
          refine R_iload_n e_X12_countyPart_4.2.2.2.2.1 1 rfl ?_
          refine R_ishl e_X12_countyPart_4.2.2.2.2.2.1 ?_
          refine R_goto 80 e_X12_countyPart_4.2.2.2.2.2.2.1 (by decide) ?_
          refine R_ls (ls2 := [(0, vA G 0), (1, vI l1)]) [0, 1] rfl ?_
          exact h
  · replace h := h.2 q
    refine R_aload_n e_X12_countyPart_2.2.2.2.2.2.2.2.2.1 0 rfl ?_
    refine R_iconst e_X12_countyPart_2.2.2.2.2.2.2.2.2.2 ?_
    refine R_callV (mc := 0) (ms := 0) (mc' := 0) (ms' := 0) (M' := M_X12_fails) (d' := 0) (as := [vI 5]) (st := []) 12 1 e_X12_countyPart_3.1 (kCVof m_X12_fails l_X12_175) rfl (by decide) km_0 (by decide) (by decide) rfl rfl (by show (0 : Nat) ≤ 8; decide) ?_
    refine Run.mono h (fun r16 s17 h => ?_)
    refine R_eqs (st2 := [vI r16]) rfl rfl ?_
    obtain ⟨q18, h⟩ := h
    exact R_zreturn e_X12_countyPart_3.2.1 rfl q18 h
theorem S_X12_countyPart_80 {G : Kg} {σ : Kmem} {Q : Int → Kmem → Prop} {l1 p0 p1 : Int}  (h : (rI l1) ∧ ((l1 = 0 → Run G WM M_X12_theLand 6 0 0 [vA G 0] (kup σ 0 20 (kor p1 p0)) (fun r20 s21 => (rI r20) ∧ ((r20 = 0 → Q 0 s21) ∧ (r20 ≠ 0 → Run G WM M_X12_wantSign 2 0 0 [vA G 0, vI 59] s21 (fun r23 s24 => (rI r23) ∧ ((r23 = 0 → Q 0 s24) ∧ (r23 ≠ 0 → Q 1 s24))))))) ∧ (l1 = 1 → Run G WM M_X12_aWind 3 0 0 [vA G 0] (kup σ 0 20 (kor p1 p0)) (fun r26 s27 => (rI r26) ∧ ((r26 = 0 → Q 0 s27) ∧ (r26 ≠ 0 → Run G WM M_X12_wantSign 2 0 0 [vA G 0, vI 59] s27 (fun r29 s30 => (rI r29) ∧ ((r29 = 0 → Q 0 s30) ∧ (r29 ≠ 0 → Q 1 s30))))))) ∧ (l1 = 2 → Run G WM M_X12_ahead 1 0 0 [vA G 0] (kup σ 0 20 (kor p1 p0)) (fun r32 s33 => ((l1 ≠ 2 → E_X12_countyPart_159 G l1 6 2056 s33 Q) ∧ (l1 = 2 → E_X12_countyPart_159 G l1 5 2056 s33 Q)))) ∧ (l1 = 3 → Run G WM M_X12_ahead 1 0 0 [vA G 0] (kup σ 0 20 (kor p1 p0)) (fun r34 s35 => ((l1 ≠ 2 → E_X12_countyPart_159 G l1 6 2056 s35 Q) ∧ (l1 = 2 → E_X12_countyPart_159 G l1 5 2056 s35 Q)))) ∧ (l1 = 4 → Run G WM M_X12_aKite 7 0 0 [vA G 0] (kup σ 0 20 (kor p1 p0)) (fun r36 s37 => (rI r36) ∧ ((r36 = 0 → Q 0 s37) ∧ (r36 ≠ 0 → Run G WM M_X12_wantSign 2 0 0 [vA G 0, vI 59] s37 (fun r39 s40 => (rI r39) ∧ ((r39 = 0 → Q 0 s40) ∧ (r39 ≠ 0 → Q 1 s40))))))) ∧ (l1 = 5 → Run G WM M_X12_aCrop 7 0 0 [vA G 0] (kup σ 0 20 (kor p1 p0)) (fun r42 s43 => (rI r42) ∧ ((r42 = 0 → Q 0 s43) ∧ (r42 ≠ 0 → Run G WM M_X12_wantSign 2 0 0 [vA G 0, vI 59] s43 (fun r45 s46 => (rI r45) ∧ ((r45 = 0 → Q 0 s46) ∧ (r45 ≠ 0 → Q 1 s46))))))) ∧ (l1 < 0 ∨ 5 < l1 → Run G WM M_X12_aTenant 7 0 0 [vA G 0] (kup σ 0 20 (kor p1 p0)) (fun r48 s49 => (rI r48) ∧ ((r48 = 0 → Q 0 s49) ∧ (r48 ≠ 0 → Run G WM M_X12_wantSign 2 0 0 [vA G 0, vI 59] s49 (fun r51 s52 => (rI r51) ∧ ((r51 = 0 → Q 0 s52) ∧ (r51 ≠ 0 → Q 1 s52))))))))) : E_X12_countyPart_80 G l1 p0 p1 σ Q := by
  refine R_ior e_X12_countyPart_4.2.2.2.2.2.2.2.2.1 ?_
  refine R_putI 12 20 20 WM_ok e_X12_countyPart_4.2.2.2.2.2.2.2.2.2 f_X12_215 km_0 rfl rfl rfl ?_
  refine R_iload_n e_X12_countyPart_5.1 1 rfl ?_
  obtain ⟨q19, h⟩ := h
  by_cases t0 : l1 = 0
  · refine R_tableIn 124 e_X12_countyPart_5.2.1 q19 (by omega) (by omega) (off := 39) (by rw [t0]; rfl) (by decide) ?_
    replace h := h.1 t0
    refine R_aload_n e_X12_countyPart_5.2.2.1 0 rfl ?_
    refine R_callV (mc := 0) (ms := 0) (mc' := 0) (ms' := 0) (M' := M_X12_theLand) (d' := 6) (as := []) (st := []) 12 0 e_X12_countyPart_5.2.2.2.1 (kCVof m_X12_theLand l_X12_218) rfl (by decide) km_0 (by decide) (by decide) rfl rfl (by show (0 : Nat) ≤ 8; decide) ?_
    refine Run.mono h (fun r20 s21 h => ?_)
    refine R_eqs (st2 := [vI r20]) rfl rfl ?_
    refine R_istore_n (ls2 := [(2, vI r20), (0, vA G 0), (1, vI l1)]) e_X12_countyPart_5.2.2.2.2.1 (by decide) rfl ?_
    refine R_goto 200 e_X12_countyPart_5.2.2.2.2.2.1 (by decide) ?_
    refine R_iload_n e_X12_countyPart_9.2.2.1 0 rfl ?_
    obtain ⟨q22, h⟩ := h
    refine R_if_eq 217 e_X12_countyPart_9.2.2.2.1 (by decide) q22  (fun q => ?_) (fun q => ?_)
    · replace h := h.1 q
      refine R_iconst e_X12_countyPart_10.1 ?_
      exact R_zreturn e_X12_countyPart_10.2 rfl (Or.inl rfl) h
    · replace h := h.2 q
      refine R_aload_n e_X12_countyPart_9.2.2.2.2.1 1 rfl ?_
      refine R_bipush e_X12_countyPart_9.2.2.2.2.2.1 (by decide) ?_
      refine R_callV (mc := 0) (ms := 0) (mc' := 0) (ms' := 0) (M' := M_X12_wantSign) (d' := 2) (as := [vI 59]) (st := []) 12 1 e_X12_countyPart_9.2.2.2.2.2.2.1 (kCVof m_X12_wantSign l_X12_234) rfl (by decide) km_0 (by decide) (by decide) rfl rfl (by show (0 : Nat) ≤ 8; decide) ?_
      refine Run.mono h (fun r23 s24 h => ?_)
      refine R_eqs (st2 := [vI r23]) rfl rfl ?_
      obtain ⟨q25, h⟩ := h
      refine R_if_eq 217 e_X12_countyPart_9.2.2.2.2.2.2.2.1 (by decide) q25  (fun q => ?_) (fun q => ?_)
      · replace h := h.1 q
        refine R_iconst e_X12_countyPart_10.1 ?_
        exact R_zreturn e_X12_countyPart_10.2 rfl (Or.inl rfl) h
      · replace h := h.2 q
        refine R_iconst e_X12_countyPart_9.2.2.2.2.2.2.2.2.1 ?_
        refine R_goto 218 e_X12_countyPart_9.2.2.2.2.2.2.2.2.2 (by decide) ?_
        exact R_zreturn e_X12_countyPart_10.2 rfl (Or.inr rfl) h
  by_cases t1 : l1 = 1
  · refine R_tableIn 132 e_X12_countyPart_5.2.1 q19 (by omega) (by omega) (off := 47) (by rw [t1]; rfl) (by decide) ?_
    replace h := h.2.1 t1
    refine R_aload_n e_X12_countyPart_5.2.2.2.2.2.2.1 0 rfl ?_
    refine R_callV (mc := 0) (ms := 0) (mc' := 0) (ms' := 0) (M' := M_X12_aWind) (d' := 3) (as := []) (st := []) 12 0 e_X12_countyPart_5.2.2.2.2.2.2.2.1 (kCVof m_X12_aWind l_X12_222) rfl (by decide) km_0 (by decide) (by decide) rfl rfl (by show (0 : Nat) ≤ 8; decide) ?_
    refine Run.mono h (fun r26 s27 h => ?_)
    refine R_eqs (st2 := [vI r26]) rfl rfl ?_
    refine R_istore_n (ls2 := [(2, vI r26), (0, vA G 0), (1, vI l1)]) e_X12_countyPart_5.2.2.2.2.2.2.2.2.1 (by decide) rfl ?_
    refine R_goto 200 e_X12_countyPart_5.2.2.2.2.2.2.2.2.2 (by decide) ?_
    refine R_iload_n e_X12_countyPart_9.2.2.1 0 rfl ?_
    obtain ⟨q28, h⟩ := h
    refine R_if_eq 217 e_X12_countyPart_9.2.2.2.1 (by decide) q28  (fun q => ?_) (fun q => ?_)
    · replace h := h.1 q
      refine R_iconst e_X12_countyPart_10.1 ?_
      exact R_zreturn e_X12_countyPart_10.2 rfl (Or.inl rfl) h
    · replace h := h.2 q
      refine R_aload_n e_X12_countyPart_9.2.2.2.2.1 1 rfl ?_
      refine R_bipush e_X12_countyPart_9.2.2.2.2.2.1 (by decide) ?_
      refine R_callV (mc := 0) (ms := 0) (mc' := 0) (ms' := 0) (M' := M_X12_wantSign) (d' := 2) (as := [vI 59]) (st := []) 12 1 e_X12_countyPart_9.2.2.2.2.2.2.1 (kCVof m_X12_wantSign l_X12_234) rfl (by decide) km_0 (by decide) (by decide) rfl rfl (by show (0 : Nat) ≤ 8; decide) ?_
      refine Run.mono h (fun r29 s30 h => ?_)
      refine R_eqs (st2 := [vI r29]) rfl rfl ?_
      obtain ⟨q31, h⟩ := h
      refine R_if_eq 217 e_X12_countyPart_9.2.2.2.2.2.2.2.1 (by decide) q31  (fun q => ?_) (fun q => ?_)
      · replace h := h.1 q
        refine R_iconst e_X12_countyPart_10.1 ?_
        exact R_zreturn e_X12_countyPart_10.2 rfl (Or.inl rfl) h
      · replace h := h.2 q
        refine R_iconst e_X12_countyPart_9.2.2.2.2.2.2.2.2.1 ?_
        refine R_goto 218 e_X12_countyPart_9.2.2.2.2.2.2.2.2.2 (by decide) ?_
        exact R_zreturn e_X12_countyPart_10.2 rfl (Or.inr rfl) h
  by_cases t2 : l1 = 2
  · refine R_tableIn 140 e_X12_countyPart_5.2.1 q19 (by omega) (by omega) (off := 55) (by rw [t2]; rfl) (by decide) ?_
    replace h := h.2.2.1 t2
    refine R_aload_n e_X12_countyPart_6.1 0 rfl ?_
    refine R_callV (mc := 0) (ms := 0) (mc' := 0) (ms' := 0) (M' := M_X12_ahead) (d' := 1) (as := []) (st := []) 12 0 e_X12_countyPart_6.2.1 (kCVof m_X12_ahead l_X12_169) rfl (by decide) km_0 (by decide) (by decide) rfl rfl (by show (0 : Nat) ≤ 8; decide) ?_
    refine Run.mono h (fun r32 s33 h => ?_)
    refine R_eqs (st2 := []) rfl rfl ?_
    refine R_aload_n e_X12_countyPart_6.2.2.1 0 rfl ?_
    refine R_sipush e_X12_countyPart_6.2.2.2.1 (by decide) ?_
    refine R_iload_n e_X12_countyPart_6.2.2.2.2.1 1 rfl ?_
    refine R_iconst e_X12_countyPart_6.2.2.2.2.2.1 ?_
    refine R_icmp_ne 157 e_X12_countyPart_6.2.2.2.2.2.2.1 (by decide) q19 (by decide) (fun q => ?_) (fun q => ?_)
    · replace h := h.1 q
      refine R_bipush e_X12_countyPart_6.2.2.2.2.2.2.2.2.2 (by decide) ?_
      refine R_ls (ls2 := [(0, vA G 0), (1, vI l1)]) [0, 1] rfl ?_
      exact h
    · replace h := h.2 q
      refine R_iconst e_X12_countyPart_6.2.2.2.2.2.2.2.1 ?_
      refine R_goto 159 e_X12_countyPart_6.2.2.2.2.2.2.2.2.1 (by decide) ?_
      refine R_ls (ls2 := [(0, vA G 0), (1, vI l1)]) [0, 1] rfl ?_
      exact h
  by_cases t3 : l1 = 3
  · refine R_tableIn 140 e_X12_countyPart_5.2.1 q19 (by omega) (by omega) (off := 55) (by rw [t3]; rfl) (by decide) ?_
    replace h := h.2.2.2.1 t3
    refine R_aload_n e_X12_countyPart_6.1 0 rfl ?_
    refine R_callV (mc := 0) (ms := 0) (mc' := 0) (ms' := 0) (M' := M_X12_ahead) (d' := 1) (as := []) (st := []) 12 0 e_X12_countyPart_6.2.1 (kCVof m_X12_ahead l_X12_169) rfl (by decide) km_0 (by decide) (by decide) rfl rfl (by show (0 : Nat) ≤ 8; decide) ?_
    refine Run.mono h (fun r34 s35 h => ?_)
    refine R_eqs (st2 := []) rfl rfl ?_
    refine R_aload_n e_X12_countyPart_6.2.2.1 0 rfl ?_
    refine R_sipush e_X12_countyPart_6.2.2.2.1 (by decide) ?_
    refine R_iload_n e_X12_countyPart_6.2.2.2.2.1 1 rfl ?_
    refine R_iconst e_X12_countyPart_6.2.2.2.2.2.1 ?_
    refine R_icmp_ne 157 e_X12_countyPart_6.2.2.2.2.2.2.1 (by decide) q19 (by decide) (fun q => ?_) (fun q => ?_)
    · replace h := h.1 q
      refine R_bipush e_X12_countyPart_6.2.2.2.2.2.2.2.2.2 (by decide) ?_
      refine R_ls (ls2 := [(0, vA G 0), (1, vI l1)]) [0, 1] rfl ?_
      exact h
    · replace h := h.2 q
      refine R_iconst e_X12_countyPart_6.2.2.2.2.2.2.2.1 ?_
      refine R_goto 159 e_X12_countyPart_6.2.2.2.2.2.2.2.2.1 (by decide) ?_
      refine R_ls (ls2 := [(0, vA G 0), (1, vI l1)]) [0, 1] rfl ?_
      exact h
  by_cases t4 : l1 = 4
  · refine R_tableIn 179 e_X12_countyPart_5.2.1 q19 (by omega) (by omega) (off := 94) (by rw [t4]; rfl) (by decide) ?_
    replace h := h.2.2.2.2.1 t4
    refine R_aload_n e_X12_countyPart_8.2.1 0 rfl ?_
    refine R_callV (mc := 0) (ms := 0) (mc' := 0) (ms' := 0) (M' := M_X12_aKite) (d' := 7) (as := []) (st := []) 12 0 e_X12_countyPart_8.2.2.1 (kCVof m_X12_aKite l_X12_225) rfl (by decide) km_0 (by decide) (by decide) rfl rfl (by show (0 : Nat) ≤ 8; decide) ?_
    refine Run.mono h (fun r36 s37 h => ?_)
    refine R_eqs (st2 := [vI r36]) rfl rfl ?_
    refine R_istore_n (ls2 := [(2, vI r36), (0, vA G 0), (1, vI l1)]) e_X12_countyPart_8.2.2.2.1 (by decide) rfl ?_
    refine R_goto 200 e_X12_countyPart_8.2.2.2.2.1 (by decide) ?_
    refine R_iload_n e_X12_countyPart_9.2.2.1 0 rfl ?_
    obtain ⟨q38, h⟩ := h
    refine R_if_eq 217 e_X12_countyPart_9.2.2.2.1 (by decide) q38  (fun q => ?_) (fun q => ?_)
    · replace h := h.1 q
      refine R_iconst e_X12_countyPart_10.1 ?_
      exact R_zreturn e_X12_countyPart_10.2 rfl (Or.inl rfl) h
    · replace h := h.2 q
      refine R_aload_n e_X12_countyPart_9.2.2.2.2.1 1 rfl ?_
      refine R_bipush e_X12_countyPart_9.2.2.2.2.2.1 (by decide) ?_
      refine R_callV (mc := 0) (ms := 0) (mc' := 0) (ms' := 0) (M' := M_X12_wantSign) (d' := 2) (as := [vI 59]) (st := []) 12 1 e_X12_countyPart_9.2.2.2.2.2.2.1 (kCVof m_X12_wantSign l_X12_234) rfl (by decide) km_0 (by decide) (by decide) rfl rfl (by show (0 : Nat) ≤ 8; decide) ?_
      refine Run.mono h (fun r39 s40 h => ?_)
      refine R_eqs (st2 := [vI r39]) rfl rfl ?_
      obtain ⟨q41, h⟩ := h
      refine R_if_eq 217 e_X12_countyPart_9.2.2.2.2.2.2.2.1 (by decide) q41  (fun q => ?_) (fun q => ?_)
      · replace h := h.1 q
        refine R_iconst e_X12_countyPart_10.1 ?_
        exact R_zreturn e_X12_countyPart_10.2 rfl (Or.inl rfl) h
      · replace h := h.2 q
        refine R_iconst e_X12_countyPart_9.2.2.2.2.2.2.2.2.1 ?_
        refine R_goto 218 e_X12_countyPart_9.2.2.2.2.2.2.2.2.2 (by decide) ?_
        exact R_zreturn e_X12_countyPart_10.2 rfl (Or.inr rfl) h
  by_cases t5 : l1 = 5
  · refine R_tableIn 187 e_X12_countyPart_5.2.1 q19 (by omega) (by omega) (off := 102) (by rw [t5]; rfl) (by decide) ?_
    replace h := h.2.2.2.2.2.1 t5
    refine R_aload_n e_X12_countyPart_8.2.2.2.2.2.1 0 rfl ?_
    refine R_callV (mc := 0) (ms := 0) (mc' := 0) (ms' := 0) (M' := M_X12_aCrop) (d' := 7) (as := []) (st := []) 12 0 e_X12_countyPart_8.2.2.2.2.2.2.1 (kCVof m_X12_aCrop l_X12_228) rfl (by decide) km_0 (by decide) (by decide) rfl rfl (by show (0 : Nat) ≤ 8; decide) ?_
    refine Run.mono h (fun r42 s43 h => ?_)
    refine R_eqs (st2 := [vI r42]) rfl rfl ?_
    refine R_istore_n (ls2 := [(2, vI r42), (0, vA G 0), (1, vI l1)]) e_X12_countyPart_8.2.2.2.2.2.2.2.1 (by decide) rfl ?_
    refine R_goto 200 e_X12_countyPart_8.2.2.2.2.2.2.2.2.1 (by decide) ?_
    refine R_iload_n e_X12_countyPart_9.2.2.1 0 rfl ?_
    obtain ⟨q44, h⟩ := h
    refine R_if_eq 217 e_X12_countyPart_9.2.2.2.1 (by decide) q44  (fun q => ?_) (fun q => ?_)
    · replace h := h.1 q
      refine R_iconst e_X12_countyPart_10.1 ?_
      exact R_zreturn e_X12_countyPart_10.2 rfl (Or.inl rfl) h
    · replace h := h.2 q
      refine R_aload_n e_X12_countyPart_9.2.2.2.2.1 1 rfl ?_
      refine R_bipush e_X12_countyPart_9.2.2.2.2.2.1 (by decide) ?_
      refine R_callV (mc := 0) (ms := 0) (mc' := 0) (ms' := 0) (M' := M_X12_wantSign) (d' := 2) (as := [vI 59]) (st := []) 12 1 e_X12_countyPart_9.2.2.2.2.2.2.1 (kCVof m_X12_wantSign l_X12_234) rfl (by decide) km_0 (by decide) (by decide) rfl rfl (by show (0 : Nat) ≤ 8; decide) ?_
      refine Run.mono h (fun r45 s46 h => ?_)
      refine R_eqs (st2 := [vI r45]) rfl rfl ?_
      obtain ⟨q47, h⟩ := h
      refine R_if_eq 217 e_X12_countyPart_9.2.2.2.2.2.2.2.1 (by decide) q47  (fun q => ?_) (fun q => ?_)
      · replace h := h.1 q
        refine R_iconst e_X12_countyPart_10.1 ?_
        exact R_zreturn e_X12_countyPart_10.2 rfl (Or.inl rfl) h
      · replace h := h.2 q
        refine R_iconst e_X12_countyPart_9.2.2.2.2.2.2.2.2.1 ?_
        refine R_goto 218 e_X12_countyPart_9.2.2.2.2.2.2.2.2.2 (by decide) ?_
        exact R_zreturn e_X12_countyPart_10.2 rfl (Or.inr rfl) h
  refine R_tableOut 195 e_X12_countyPart_5.2.1 q19 (by omega) (by decide) ?_
  replace h := h.2.2.2.2.2.2 (by omega)
  refine R_aload_n e_X12_countyPart_8.2.2.2.2.2.2.2.2.2 0 rfl ?_
  refine R_callV (mc := 0) (ms := 0) (mc' := 0) (ms' := 0) (M' := M_X12_aTenant) (d' := 7) (as := []) (st := []) 12 0 e_X12_countyPart_9.1 (kCVof m_X12_aTenant l_X12_231) rfl (by decide) km_0 (by decide) (by decide) rfl rfl (by show (0 : Nat) ≤ 8; decide) ?_
  refine Run.mono h (fun r48 s49 h => ?_)
  refine R_eqs (st2 := [vI r48]) rfl rfl ?_
  refine R_istore_n (ls2 := [(2, vI r48), (0, vA G 0), (1, vI l1)]) e_X12_countyPart_9.2.1 (by decide) rfl ?_
  refine R_iload_n e_X12_countyPart_9.2.2.1 0 rfl ?_
  obtain ⟨q50, h⟩ := h
  refine R_if_eq 217 e_X12_countyPart_9.2.2.2.1 (by decide) q50  (fun q => ?_) (fun q => ?_)
  · replace h := h.1 q
    refine R_iconst e_X12_countyPart_10.1 ?_
    exact R_zreturn e_X12_countyPart_10.2 rfl (Or.inl rfl) h
  · replace h := h.2 q
    refine R_aload_n e_X12_countyPart_9.2.2.2.2.1 1 rfl ?_
    refine R_bipush e_X12_countyPart_9.2.2.2.2.2.1 (by decide) ?_
    refine R_callV (mc := 0) (ms := 0) (mc' := 0) (ms' := 0) (M' := M_X12_wantSign) (d' := 2) (as := [vI 59]) (st := []) 12 1 e_X12_countyPart_9.2.2.2.2.2.2.1 (kCVof m_X12_wantSign l_X12_234) rfl (by decide) km_0 (by decide) (by decide) rfl rfl (by show (0 : Nat) ≤ 8; decide) ?_
    refine Run.mono h (fun r51 s52 h => ?_)
    refine R_eqs (st2 := [vI r51]) rfl rfl ?_
    obtain ⟨q53, h⟩ := h
    refine R_if_eq 217 e_X12_countyPart_9.2.2.2.2.2.2.2.1 (by decide) q53  (fun q => ?_) (fun q => ?_)
    · replace h := h.1 q
      refine R_iconst e_X12_countyPart_10.1 ?_
      exact R_zreturn e_X12_countyPart_10.2 rfl (Or.inl rfl) h
    · replace h := h.2 q
      refine R_iconst e_X12_countyPart_9.2.2.2.2.2.2.2.2.1 ?_
      refine R_goto 218 e_X12_countyPart_9.2.2.2.2.2.2.2.2.2 (by decide) ?_
      exact R_zreturn e_X12_countyPart_10.2 rfl (Or.inr rfl) h
theorem S_X12_countyPart_159 {G : Kg} {σ : Kmem} {Q : Int → Kmem → Prop} {l1 p0 p1 : Int}  (h : (rI l1) ∧ ((l1 ≠ 2 → Run G WM M_X12_number 2 0 0 [vA G 0, vI (p1 + p0), vI 0, vI 2] σ (fun r55 s56 => (rI r55) ∧ ((r55 = 0 → Q 0 s56) ∧ (r55 ≠ 0 → Run G WM M_X12_wantSign 2 0 0 [vA G 0, vI 59] s56 (fun r58 s59 => (rI r58) ∧ ((r58 = 0 → Q 0 s59) ∧ (r58 ≠ 0 → Q 1 s59))))))) ∧ (l1 = 2 → Run G WM M_X12_number 2 0 0 [vA G 0, vI (p1 + p0), vI 0, vI 11] σ (fun r61 s62 => (rI r61) ∧ ((r61 = 0 → Q 0 s62) ∧ (r61 ≠ 0 → Run G WM M_X12_wantSign 2 0 0 [vA G 0, vI 59] s62 (fun r64 s65 => (rI r64) ∧ ((r64 = 0 → Q 0 s65) ∧ (r64 ≠ 0 → Q 1 s65))))))))) : E_X12_countyPart_159 G l1 p0 p1 σ Q := by
  refine R_iadd e_X12_countyPart_7.1 ?_
  refine R_iconst e_X12_countyPart_7.2.1 ?_
  refine R_iload_n e_X12_countyPart_7.2.2.1 1 rfl ?_
  refine R_iconst e_X12_countyPart_7.2.2.2.1 ?_
  obtain ⟨q54, h⟩ := h
  refine R_icmp_ne 171 e_X12_countyPart_7.2.2.2.2.1 (by decide) q54 (by decide) (fun q => ?_) (fun q => ?_)
  · replace h := h.1 q
    refine R_iconst e_X12_countyPart_7.2.2.2.2.2.2.2.1 ?_
    refine R_callV (mc := 0) (ms := 0) (mc' := 0) (ms' := 0) (M' := M_X12_number) (d' := 2) (as := [vI (p1 + p0), vI 0, vI 2]) (st := []) 12 3 e_X12_countyPart_7.2.2.2.2.2.2.2.2.1 (kCVof m_X12_number l_X12_199) rfl (by decide) km_0 (by decide) (by decide) rfl rfl (by show (0 : Nat) ≤ 8; decide) ?_
    refine Run.mono h (fun r55 s56 h => ?_)
    refine R_eqs (st2 := [vI r55]) rfl rfl ?_
    refine R_istore_n (ls2 := [(2, vI r55), (0, vA G 0), (1, vI l1)]) e_X12_countyPart_7.2.2.2.2.2.2.2.2.2 (by decide) rfl ?_
    refine R_goto 200 e_X12_countyPart_8.1 (by decide) ?_
    refine R_iload_n e_X12_countyPart_9.2.2.1 0 rfl ?_
    obtain ⟨q57, h⟩ := h
    refine R_if_eq 217 e_X12_countyPart_9.2.2.2.1 (by decide) q57  (fun q => ?_) (fun q => ?_)
    · replace h := h.1 q
      refine R_iconst e_X12_countyPart_10.1 ?_
      exact R_zreturn e_X12_countyPart_10.2 rfl (Or.inl rfl) h
    · replace h := h.2 q
      refine R_aload_n e_X12_countyPart_9.2.2.2.2.1 1 rfl ?_
      refine R_bipush e_X12_countyPart_9.2.2.2.2.2.1 (by decide) ?_
      refine R_callV (mc := 0) (ms := 0) (mc' := 0) (ms' := 0) (M' := M_X12_wantSign) (d' := 2) (as := [vI 59]) (st := []) 12 1 e_X12_countyPart_9.2.2.2.2.2.2.1 (kCVof m_X12_wantSign l_X12_234) rfl (by decide) km_0 (by decide) (by decide) rfl rfl (by show (0 : Nat) ≤ 8; decide) ?_
      refine Run.mono h (fun r58 s59 h => ?_)
      refine R_eqs (st2 := [vI r58]) rfl rfl ?_
      obtain ⟨q60, h⟩ := h
      refine R_if_eq 217 e_X12_countyPart_9.2.2.2.2.2.2.2.1 (by decide) q60  (fun q => ?_) (fun q => ?_)
      · replace h := h.1 q
        refine R_iconst e_X12_countyPart_10.1 ?_
        exact R_zreturn e_X12_countyPart_10.2 rfl (Or.inl rfl) h
      · replace h := h.2 q
        refine R_iconst e_X12_countyPart_9.2.2.2.2.2.2.2.2.1 ?_
        refine R_goto 218 e_X12_countyPart_9.2.2.2.2.2.2.2.2.2 (by decide) ?_
        exact R_zreturn e_X12_countyPart_10.2 rfl (Or.inr rfl) h
  · replace h := h.2 q
    refine R_bipush e_X12_countyPart_7.2.2.2.2.2.1 (by decide) ?_
    refine R_goto 172 e_X12_countyPart_7.2.2.2.2.2.2.1 (by decide) ?_
    refine R_callV (mc := 0) (ms := 0) (mc' := 0) (ms' := 0) (M' := M_X12_number) (d' := 2) (as := [vI (p1 + p0), vI 0, vI 11]) (st := []) 12 3 e_X12_countyPart_7.2.2.2.2.2.2.2.2.1 (kCVof m_X12_number l_X12_199) rfl (by decide) km_0 (by decide) (by decide) rfl rfl (by show (0 : Nat) ≤ 8; decide) ?_
    refine Run.mono h (fun r61 s62 h => ?_)
    refine R_eqs (st2 := [vI r61]) rfl rfl ?_
    refine R_istore_n (ls2 := [(2, vI r61), (0, vA G 0), (1, vI l1)]) e_X12_countyPart_7.2.2.2.2.2.2.2.2.2 (by decide) rfl ?_
    refine R_goto 200 e_X12_countyPart_8.1 (by decide) ?_
    refine R_iload_n e_X12_countyPart_9.2.2.1 0 rfl ?_
    obtain ⟨q63, h⟩ := h
    refine R_if_eq 217 e_X12_countyPart_9.2.2.2.1 (by decide) q63  (fun q => ?_) (fun q => ?_)
    · replace h := h.1 q
      refine R_iconst e_X12_countyPart_10.1 ?_
      exact R_zreturn e_X12_countyPart_10.2 rfl (Or.inl rfl) h
    · replace h := h.2 q
      refine R_aload_n e_X12_countyPart_9.2.2.2.2.1 1 rfl ?_
      refine R_bipush e_X12_countyPart_9.2.2.2.2.2.1 (by decide) ?_
      refine R_callV (mc := 0) (ms := 0) (mc' := 0) (ms' := 0) (M' := M_X12_wantSign) (d' := 2) (as := [vI 59]) (st := []) 12 1 e_X12_countyPart_9.2.2.2.2.2.2.1 (kCVof m_X12_wantSign l_X12_234) rfl (by decide) km_0 (by decide) (by decide) rfl rfl (by show (0 : Nat) ≤ 8; decide) ?_
      refine Run.mono h (fun r64 s65 h => ?_)
      refine R_eqs (st2 := [vI r64]) rfl rfl ?_
      obtain ⟨q66, h⟩ := h
      refine R_if_eq 217 e_X12_countyPart_9.2.2.2.2.2.2.2.1 (by decide) q66  (fun q => ?_) (fun q => ?_)
      · replace h := h.1 q
        refine R_iconst e_X12_countyPart_10.1 ?_
        exact R_zreturn e_X12_countyPart_10.2 rfl (Or.inl rfl) h
      · replace h := h.2 q
        refine R_iconst e_X12_countyPart_9.2.2.2.2.2.2.2.2.1 ?_
        refine R_goto 218 e_X12_countyPart_9.2.2.2.2.2.2.2.2.2 (by decide) ?_
        exact R_zreturn e_X12_countyPart_10.2 rfl (Or.inr rfl) h
