/-! KiteLand$Crop.begin(JIII)V -/
theorem e_X2_begin_0 : decode cX2_begin 0 = .ok (.aload_n 0, 1) ∧ decode cX2_begin 1 = .ok (.lload_n 1, 1) ∧ decode cX2_begin 2 = .ok (.putfield 9, 3) ∧ decode cX2_begin 5 = .ok (.aload_n 0, 1) ∧ decode cX2_begin 6 = .ok (.iload_n 3, 1) ∧ decode cX2_begin 7 = .ok (.putfield 15, 3) ∧ decode cX2_begin 10 = .ok (.aload_n 0, 1) ∧ decode cX2_begin 11 = .ok (.iload 4, 2) ∧ decode cX2_begin 13 = .ok (.putfield 19, 3) ∧ decode cX2_begin 16 = .ok (.aload_n 0, 1) := by decide +kernel
theorem e_X2_begin_1 : decode cX2_begin 17 = .ok (.iload 5, 2) ∧ decode cX2_begin 19 = .ok (.putfield 22, 3) ∧ decode cX2_begin 22 = .ok (.aload_n 0, 1) ∧ decode cX2_begin 23 = .ok (.iconst 0, 1) ∧ decode cX2_begin 24 = .ok (.putfield 25, 3) ∧ decode cX2_begin 27 = .ok (.return_, 1) := by decide +kernel
theorem S_X2_begin {G : Kg} {σ : Kmem} {Q : Int → Kmem → Prop} {a l1 l3 l4 l5 : Int} (ha : kIsX a 2) (h : Q 0 (kup (kup (kup (kup (kup σ a 0 l1) a 1 l3) a 2 l4) a 3 l5) a 4 0)) : Run G WX M_X2_begin 0 0 0 [vA G a, vL l1, vI l3, vI l4, vI l5] σ Q := by
  refine Run.of (by decide +kernel) (by show (6 : Nat) ≤ 6; decide) ?_
  show Ex G WX M_X2_begin 0 0 0 0 [(0, vA G a), (1, vL l1), (3, vI l3), (4, vI l4), (5, vI l5)] [] σ Q
  refine R_aload_n e_X2_begin_0.1 0 rfl ?_
  refine R_lload_n e_X2_begin_0.2.1 1 rfl ?_
  refine R_putL 2 0 0 WX_ok e_X2_begin_0.2.2.1 f_X2_9 (kLX ha) rfl rfl rfl ?_
  refine R_aload_n e_X2_begin_0.2.2.2.1 0 rfl ?_
  refine R_iload_n e_X2_begin_0.2.2.2.2.1 2 rfl ?_
  refine R_putI 2 1 1 WX_ok e_X2_begin_0.2.2.2.2.2.1 f_X2_15 (kLX ha) rfl rfl rfl ?_
  refine R_aload_n e_X2_begin_0.2.2.2.2.2.2.1 0 rfl ?_
  refine R_iload e_X2_begin_0.2.2.2.2.2.2.2.1 3 rfl ?_
  refine R_putI 2 2 2 WX_ok e_X2_begin_0.2.2.2.2.2.2.2.2.1 f_X2_19 (kLX ha) rfl rfl rfl ?_
  refine R_aload_n e_X2_begin_0.2.2.2.2.2.2.2.2.2 0 rfl ?_
  refine R_iload e_X2_begin_1.1 4 rfl ?_
  refine R_putI 2 3 3 WX_ok e_X2_begin_1.2.1 f_X2_22 (kLX ha) rfl rfl rfl ?_
  refine R_aload_n e_X2_begin_1.2.2.1 0 rfl ?_
  refine R_iconst e_X2_begin_1.2.2.2.1 ?_
  refine R_putI 2 4 4 WX_ok e_X2_begin_1.2.2.2.2.1 f_X2_25 (kLX ha) rfl rfl rfl ?_
  exact R_return e_X2_begin_1.2.2.2.2.2 rfl h
/-! KiteLand$Crop.copy(LKiteLand$Crop;)V -/
theorem e_X2_copy_0 : decode cX2_copy 0 = .ok (.aload_n 0, 1) ∧ decode cX2_copy 1 = .ok (.aload_n 1, 1) ∧ decode cX2_copy 2 = .ok (.getfield 9, 3) ∧ decode cX2_copy 5 = .ok (.putfield 9, 3) ∧ decode cX2_copy 8 = .ok (.aload_n 0, 1) ∧ decode cX2_copy 9 = .ok (.aload_n 1, 1) ∧ decode cX2_copy 10 = .ok (.getfield 15, 3) ∧ decode cX2_copy 13 = .ok (.putfield 15, 3) ∧ decode cX2_copy 16 = .ok (.aload_n 0, 1) ∧ decode cX2_copy 17 = .ok (.aload_n 1, 1) := by decide +kernel
theorem e_X2_copy_1 : decode cX2_copy 18 = .ok (.getfield 19, 3) ∧ decode cX2_copy 21 = .ok (.putfield 19, 3) ∧ decode cX2_copy 24 = .ok (.aload_n 0, 1) ∧ decode cX2_copy 25 = .ok (.aload_n 1, 1) ∧ decode cX2_copy 26 = .ok (.getfield 22, 3) ∧ decode cX2_copy 29 = .ok (.putfield 22, 3) ∧ decode cX2_copy 32 = .ok (.aload_n 0, 1) ∧ decode cX2_copy 33 = .ok (.aload_n 1, 1) ∧ decode cX2_copy 34 = .ok (.getfield 25, 3) ∧ decode cX2_copy 37 = .ok (.putfield 25, 3) := by decide +kernel
theorem e_X2_copy_2 : decode cX2_copy 40 = .ok (.return_, 1) := by decide +kernel
theorem S_X2_copy {G : Kg} {σ : Kmem} {Q : Int → Kmem → Prop} {a a2 : Int} (ha : kIsX a 2) (ha2 : kIsX a2 2) (h : Q 0 (kup (kup (kup (kup (kup σ a 0 (σ a2 0)) a 1 ((kup σ a 0 (σ a2 0)) a2 1)) a 2 ((kup (kup σ a 0 (σ a2 0)) a 1 ((kup σ a 0 (σ a2 0)) a2 1)) a2 2)) a 3 ((kup (kup (kup σ a 0 (σ a2 0)) a 1 ((kup σ a 0 (σ a2 0)) a2 1)) a 2 ((kup (kup σ a 0 (σ a2 0)) a 1 ((kup σ a 0 (σ a2 0)) a2 1)) a2 2)) a2 3)) a 4 ((kup (kup (kup (kup σ a 0 (σ a2 0)) a 1 ((kup σ a 0 (σ a2 0)) a2 1)) a 2 ((kup (kup σ a 0 (σ a2 0)) a 1 ((kup σ a 0 (σ a2 0)) a2 1)) a2 2)) a 3 ((kup (kup (kup σ a 0 (σ a2 0)) a 1 ((kup σ a 0 (σ a2 0)) a2 1)) a 2 ((kup (kup σ a 0 (σ a2 0)) a 1 ((kup σ a 0 (σ a2 0)) a2 1)) a2 2)) a2 3)) a2 4))) : Run G WX M_X2_copy 0 0 0 [vA G a, vA G a2] σ Q := by
  refine Run.of (by decide +kernel) (by show (2 : Nat) ≤ 2; decide) ?_
  show Ex G WX M_X2_copy 0 0 0 0 [(0, vA G a), (1, vA G a2)] [] σ Q
  refine R_aload_n e_X2_copy_0.1 0 rfl ?_
  refine R_aload_n e_X2_copy_0.2.1 1 rfl ?_
  refine R_getL 2 0 0 e_X2_copy_0.2.2.1 f_X2_9 (kLX ha2) (fun _ _ => rfl) rfl ?_
  refine R_putL 2 0 0 WX_ok e_X2_copy_0.2.2.2.1 f_X2_9 (kLX ha) rfl rfl rfl ?_
  refine R_aload_n e_X2_copy_0.2.2.2.2.1 0 rfl ?_
  refine R_aload_n e_X2_copy_0.2.2.2.2.2.1 1 rfl ?_
  refine R_getI 2 1 1 e_X2_copy_0.2.2.2.2.2.2.1 f_X2_15 (kLX ha2) (fun _ _ => rfl) rfl ?_
  refine R_putI 2 1 1 WX_ok e_X2_copy_0.2.2.2.2.2.2.2.1 f_X2_15 (kLX ha) rfl rfl rfl ?_
  refine R_aload_n e_X2_copy_0.2.2.2.2.2.2.2.2.1 0 rfl ?_
  refine R_aload_n e_X2_copy_0.2.2.2.2.2.2.2.2.2 1 rfl ?_
  refine R_getI 2 2 2 e_X2_copy_1.1 f_X2_19 (kLX ha2) (fun _ _ => rfl) rfl ?_
  refine R_putI 2 2 2 WX_ok e_X2_copy_1.2.1 f_X2_19 (kLX ha) rfl rfl rfl ?_
  refine R_aload_n e_X2_copy_1.2.2.1 0 rfl ?_
  refine R_aload_n e_X2_copy_1.2.2.2.1 1 rfl ?_
  refine R_getI 2 3 3 e_X2_copy_1.2.2.2.2.1 f_X2_22 (kLX ha2) (fun _ _ => rfl) rfl ?_
  refine R_putI 2 3 3 WX_ok e_X2_copy_1.2.2.2.2.2.1 f_X2_22 (kLX ha) rfl rfl rfl ?_
  refine R_aload_n e_X2_copy_1.2.2.2.2.2.2.1 0 rfl ?_
  refine R_aload_n e_X2_copy_1.2.2.2.2.2.2.2.1 1 rfl ?_
  refine R_getI 2 4 4 e_X2_copy_1.2.2.2.2.2.2.2.2.1 f_X2_25 (kLX ha2) (fun _ _ => rfl) rfl ?_
  refine R_putI 2 4 4 WX_ok e_X2_copy_1.2.2.2.2.2.2.2.2.2 f_X2_25 (kLX ha) rfl rfl rfl ?_
  exact R_return e_X2_copy_2 rfl h
/-! KiteLand$Crop.isRipe()Z -/
theorem e_X2_isRipe_0 : decode cX2_isRipe 0 = .ok (.aload_n 0, 1) ∧ decode cX2_isRipe 1 = .ok (.getfield 25, 3) ∧ decode cX2_isRipe 4 = .ok (.aload_n 0, 1) ∧ decode cX2_isRipe 5 = .ok (.getfield 22, 3) ∧ decode cX2_isRipe 8 = .ok (.if_icmp .lt 7, 3) ∧ decode cX2_isRipe 11 = .ok (.iconst 1, 1) ∧ decode cX2_isRipe 12 = .ok (.goto 4, 3) ∧ decode cX2_isRipe 15 = .ok (.iconst 0, 1) ∧ decode cX2_isRipe 16 = .ok (.ireturn, 1) := by decide +kernel
theorem S_X2_isRipe {G : Kg} {σ : Kmem} {Q : Int → Kmem → Prop} {a : Int} (ha : kIsX a 2) (h : (rI (σ a 4)) ∧ (rI (σ a 3)) ∧ ((σ a 4 < σ a 3 → Q 0 σ) ∧ (σ a 3 ≤ σ a 4 → Q 1 σ))) : Run G WX M_X2_isRipe 0 0 0 [vA G a] σ Q := by
  refine Run.of (by decide +kernel) (by show (1 : Nat) ≤ 1; decide) ?_
  show Ex G WX M_X2_isRipe 0 0 0 0 [(0, vA G a)] [] σ Q
  refine R_aload_n e_X2_isRipe_0.1 0 rfl ?_
  refine R_getI 2 4 4 e_X2_isRipe_0.2.1 f_X2_25 (kLX ha) (fun _ _ => rfl) rfl ?_
  refine R_aload_n e_X2_isRipe_0.2.2.1 0 rfl ?_
  refine R_getI 2 3 3 e_X2_isRipe_0.2.2.2.1 f_X2_22 (kLX ha) (fun _ _ => rfl) rfl ?_
  obtain ⟨q1, h⟩ := h
  obtain ⟨q2, h⟩ := h
  refine R_icmp_lt 15 e_X2_isRipe_0.2.2.2.2.1 (by decide) q1 q2 (fun q => ?_) (fun q => ?_)
  · replace h := h.1 q
    refine R_iconst e_X2_isRipe_0.2.2.2.2.2.2.2.1 ?_
    exact R_zreturn e_X2_isRipe_0.2.2.2.2.2.2.2.2 rfl (Or.inl rfl) h
  · replace h := h.2 q
    refine R_iconst e_X2_isRipe_0.2.2.2.2.2.1 ?_
    refine R_goto 16 e_X2_isRipe_0.2.2.2.2.2.2.1 (by decide) ?_
    exact R_zreturn e_X2_isRipe_0.2.2.2.2.2.2.2.2 rfl (Or.inr rfl) h
/-! KiteLand$Crop.grow()V -/
theorem e_X2_grow_0 : decode cX2_grow 0 = .ok (.aload_n 0, 1) ∧ decode cX2_grow 1 = .ok (.bipush 99, 2) ∧ decode cX2_grow 3 = .ok (.aload_n 0, 1) ∧ decode cX2_grow 4 = .ok (.getfield 25, 3) ∧ decode cX2_grow 7 = .ok (.iconst 1, 1) ∧ decode cX2_grow 8 = .ok (.iadd, 1) ∧ decode cX2_grow 9 = .ok (.invokestatic 28, 3) ∧ decode cX2_grow 12 = .ok (.putfield 25, 3) ∧ decode cX2_grow 15 = .ok (.return_, 1) := by decide +kernel
theorem S_X2_grow {G : Kg} {σ : Kmem} {Q : Int → Kmem → Prop} {a : Int} (ha : kIsX a 2) (h : Run G WX M_J9_min_7cf53 0 0 0 [vI 99, vI ((σ a 4) + 1)] σ (fun r1 s2 => Q 0 (kup s2 a 4 r1))) : Run G WX M_X2_grow 1 0 0 [vA G a] σ Q := by
  refine Run.of (by decide +kernel) (by show (1 : Nat) ≤ 1; decide) ?_
  show Ex G WX M_X2_grow 1 0 0 0 [(0, vA G a)] [] σ Q
  refine R_aload_n e_X2_grow_0.1 0 rfl ?_
  refine R_bipush e_X2_grow_0.2.1 (by decide) ?_
  refine R_aload_n e_X2_grow_0.2.2.1 0 rfl ?_
  refine R_getI 2 4 4 e_X2_grow_0.2.2.2.1 f_X2_25 (kLX ha) (fun _ _ => rfl) rfl ?_
  refine R_iconst e_X2_grow_0.2.2.2.2.1 ?_
  refine R_iadd e_X2_grow_0.2.2.2.2.2.1 ?_
  refine R_callS (mc := 0) (ms := 0) (mc' := 0) (ms' := 0) (M' := M_J9_min_7cf53) (d' := 0) (as := [vI 99, vI ((σ a 4) + 1)]) (st := [vA G a]) 2 e_X2_grow_0.2.2.2.2.2.2.1 (kCSof m_J9_min_7cf53 l_X2_28) (by decide) (by decide) rfl rfl (by show (1 : Nat) ≤ 8; decide) ?_
  refine Run.mono h (fun r1 s2 h => ?_)
  refine R_eqs (st2 := [vI r1, vA G a]) rfl rfl ?_
  refine R_putI 2 4 4 WX_ok e_X2_grow_0.2.2.2.2.2.2.2.1 f_X2_25 (kLX ha) rfl rfl rfl ?_
  exact R_return e_X2_grow_0.2.2.2.2.2.2.2.2 rfl h
/-! KiteLand$Kite.begin(JII)V -/
theorem e_X3_begin_0 : decode cX3_begin 0 = .ok (.aload_n 0, 1) ∧ decode cX3_begin 1 = .ok (.lload_n 1, 1) ∧ decode cX3_begin 2 = .ok (.putfield 9, 3) ∧ decode cX3_begin 5 = .ok (.aload_n 0, 1) ∧ decode cX3_begin 6 = .ok (.iload_n 3, 1) ∧ decode cX3_begin 7 = .ok (.putfield 15, 3) ∧ decode cX3_begin 10 = .ok (.aload_n 0, 1) ∧ decode cX3_begin 11 = .ok (.iload 4, 2) ∧ decode cX3_begin 13 = .ok (.putfield 19, 3) ∧ decode cX3_begin 16 = .ok (.aload_n 0, 1) := by decide +kernel
theorem e_X3_begin_1 : decode cX3_begin 17 = .ok (.iconst 1, 1) ∧ decode cX3_begin 18 = .ok (.putfield 22, 3) ∧ decode cX3_begin 21 = .ok (.aload_n 0, 1) ∧ decode cX3_begin 22 = .ok (.iconst 3, 1) ∧ decode cX3_begin 23 = .ok (.putfield 25, 3) ∧ decode cX3_begin 26 = .ok (.aload_n 0, 1) ∧ decode cX3_begin 27 = .ok (.iconst 1, 1) ∧ decode cX3_begin 28 = .ok (.putfield 28, 3) ∧ decode cX3_begin 31 = .ok (.aload_n 0, 1) ∧ decode cX3_begin 32 = .ok (.iconst 0, 1) := by decide +kernel
theorem e_X3_begin_2 : decode cX3_begin 33 = .ok (.putfield 31, 3) ∧ decode cX3_begin 36 = .ok (.aload_n 0, 1) ∧ decode cX3_begin 37 = .ok (.iconst 0, 1) ∧ decode cX3_begin 38 = .ok (.putfield 34, 3) ∧ decode cX3_begin 41 = .ok (.aload_n 0, 1) ∧ decode cX3_begin 42 = .ok (.iconst 0, 1) ∧ decode cX3_begin 43 = .ok (.putfield 37, 3) ∧ decode cX3_begin 46 = .ok (.aload_n 0, 1) ∧ decode cX3_begin 47 = .ok (.iconst 0, 1) ∧ decode cX3_begin 48 = .ok (.putfield 40, 3) := by decide +kernel
theorem e_X3_begin_3 : decode cX3_begin 51 = .ok (.return_, 1) := by decide +kernel
theorem S_X3_begin {G : Kg} {σ : Kmem} {Q : Int → Kmem → Prop} {a l1 l3 l4 : Int} (ha : kIsX a 3) (h : Q 0 (kup (kup (kup (kup (kup (kup (kup (kup (kup (kup σ a 0 l1) a 1 l3) a 2 l4) a 3 1) a 4 3) a 5 1) a 6 0) a 7 0) a 8 0) a 9 0)) : Run G WX M_X3_begin 0 0 0 [vA G a, vL l1, vI l3, vI l4] σ Q := by
  refine Run.of (by decide +kernel) (by show (5 : Nat) ≤ 5; decide) ?_
  show Ex G WX M_X3_begin 0 0 0 0 [(0, vA G a), (1, vL l1), (3, vI l3), (4, vI l4)] [] σ Q
  refine R_aload_n e_X3_begin_0.1 0 rfl ?_
  refine R_lload_n e_X3_begin_0.2.1 1 rfl ?_
  refine R_putL 3 0 0 WX_ok e_X3_begin_0.2.2.1 f_X3_9 (kLX ha) rfl rfl rfl ?_
  refine R_aload_n e_X3_begin_0.2.2.2.1 0 rfl ?_
  refine R_iload_n e_X3_begin_0.2.2.2.2.1 2 rfl ?_
  refine R_putI 3 1 1 WX_ok e_X3_begin_0.2.2.2.2.2.1 f_X3_15 (kLX ha) rfl rfl rfl ?_
  refine R_aload_n e_X3_begin_0.2.2.2.2.2.2.1 0 rfl ?_
  refine R_iload e_X3_begin_0.2.2.2.2.2.2.2.1 3 rfl ?_
  refine R_putI 3 2 2 WX_ok e_X3_begin_0.2.2.2.2.2.2.2.2.1 f_X3_19 (kLX ha) rfl rfl rfl ?_
  refine R_aload_n e_X3_begin_0.2.2.2.2.2.2.2.2.2 0 rfl ?_
  refine R_iconst e_X3_begin_1.1 ?_
  refine R_putI 3 3 3 WX_ok e_X3_begin_1.2.1 f_X3_22 (kLX ha) rfl rfl rfl ?_
  refine R_aload_n e_X3_begin_1.2.2.1 0 rfl ?_
  refine R_iconst e_X3_begin_1.2.2.2.1 ?_
  refine R_putI 3 4 4 WX_ok e_X3_begin_1.2.2.2.2.1 f_X3_25 (kLX ha) rfl rfl rfl ?_
  refine R_aload_n e_X3_begin_1.2.2.2.2.2.1 0 rfl ?_
  refine R_iconst e_X3_begin_1.2.2.2.2.2.2.1 ?_
  refine R_putI 3 5 5 WX_ok e_X3_begin_1.2.2.2.2.2.2.2.1 f_X3_28 (kLX ha) rfl rfl rfl ?_
  refine R_aload_n e_X3_begin_1.2.2.2.2.2.2.2.2.1 0 rfl ?_
  refine R_iconst e_X3_begin_1.2.2.2.2.2.2.2.2.2 ?_
  refine R_putI 3 6 6 WX_ok e_X3_begin_2.1 f_X3_31 (kLX ha) rfl rfl rfl ?_
  refine R_aload_n e_X3_begin_2.2.1 0 rfl ?_
  refine R_iconst e_X3_begin_2.2.2.1 ?_
  refine R_putI 3 7 7 WX_ok e_X3_begin_2.2.2.2.1 f_X3_34 (kLX ha) rfl rfl rfl ?_
  refine R_aload_n e_X3_begin_2.2.2.2.2.1 0 rfl ?_
  refine R_iconst e_X3_begin_2.2.2.2.2.2.1 ?_
  refine R_putI 3 8 8 WX_ok e_X3_begin_2.2.2.2.2.2.2.1 f_X3_37 (kLX ha) rfl rfl rfl ?_
  refine R_aload_n e_X3_begin_2.2.2.2.2.2.2.2.1 0 rfl ?_
  refine R_iconst e_X3_begin_2.2.2.2.2.2.2.2.2.1 ?_
  refine R_putZ 3 9 9 WX_ok e_X3_begin_2.2.2.2.2.2.2.2.2.2 f_X3_40 (kLX ha) rfl rfl rfl (Or.inl rfl) ?_
  exact R_return e_X3_begin_3 rfl h
/-! KiteLand$Kite.copy(LKiteLand$Kite;)V -/
theorem e_X3_copy_0 : decode cX3_copy 0 = .ok (.aload_n 0, 1) ∧ decode cX3_copy 1 = .ok (.aload_n 1, 1) ∧ decode cX3_copy 2 = .ok (.getfield 9, 3) ∧ decode cX3_copy 5 = .ok (.putfield 9, 3) ∧ decode cX3_copy 8 = .ok (.aload_n 0, 1) ∧ decode cX3_copy 9 = .ok (.aload_n 1, 1) ∧ decode cX3_copy 10 = .ok (.getfield 15, 3) ∧ decode cX3_copy 13 = .ok (.putfield 15, 3) ∧ decode cX3_copy 16 = .ok (.aload_n 0, 1) ∧ decode cX3_copy 17 = .ok (.aload_n 1, 1) := by decide +kernel
theorem e_X3_copy_1 : decode cX3_copy 18 = .ok (.getfield 19, 3) ∧ decode cX3_copy 21 = .ok (.putfield 19, 3) ∧ decode cX3_copy 24 = .ok (.aload_n 0, 1) ∧ decode cX3_copy 25 = .ok (.aload_n 1, 1) ∧ decode cX3_copy 26 = .ok (.getfield 22, 3) ∧ decode cX3_copy 29 = .ok (.putfield 22, 3) ∧ decode cX3_copy 32 = .ok (.aload_n 0, 1) ∧ decode cX3_copy 33 = .ok (.aload_n 1, 1) ∧ decode cX3_copy 34 = .ok (.getfield 25, 3) ∧ decode cX3_copy 37 = .ok (.putfield 25, 3) := by decide +kernel
theorem e_X3_copy_2 : decode cX3_copy 40 = .ok (.aload_n 0, 1) ∧ decode cX3_copy 41 = .ok (.aload_n 1, 1) ∧ decode cX3_copy 42 = .ok (.getfield 28, 3) ∧ decode cX3_copy 45 = .ok (.putfield 28, 3) ∧ decode cX3_copy 48 = .ok (.aload_n 0, 1) ∧ decode cX3_copy 49 = .ok (.aload_n 1, 1) ∧ decode cX3_copy 50 = .ok (.getfield 31, 3) ∧ decode cX3_copy 53 = .ok (.putfield 31, 3) ∧ decode cX3_copy 56 = .ok (.aload_n 0, 1) ∧ decode cX3_copy 57 = .ok (.aload_n 1, 1) := by decide +kernel
theorem e_X3_copy_3 : decode cX3_copy 58 = .ok (.getfield 34, 3) ∧ decode cX3_copy 61 = .ok (.putfield 34, 3) ∧ decode cX3_copy 64 = .ok (.aload_n 0, 1) ∧ decode cX3_copy 65 = .ok (.aload_n 1, 1) ∧ decode cX3_copy 66 = .ok (.getfield 37, 3) ∧ decode cX3_copy 69 = .ok (.putfield 37, 3) ∧ decode cX3_copy 72 = .ok (.aload_n 0, 1) ∧ decode cX3_copy 73 = .ok (.aload_n 1, 1) ∧ decode cX3_copy 74 = .ok (.getfield 40, 3) ∧ decode cX3_copy 77 = .ok (.putfield 40, 3) := by decide +kernel
theorem e_X3_copy_4 : decode cX3_copy 80 = .ok (.return_, 1) := by decide +kernel
theorem S_X3_copy {G : Kg} {σ : Kmem} {Q : Int → Kmem → Prop} {a a2 : Int} (ha : kIsX a 3) (ha2 : kIsX a2 3) (h : ((kup (kup (kup (kup (kup (kup (kup (kup (kup σ a 0 (σ a2 0)) a 1 ((kup σ a 0 (σ a2 0)) a2 1)) a 2 ((kup (kup σ a 0 (σ a2 0)) a 1 ((kup σ a 0 (σ a2 0)) a2 1)) a2 2)) a 3 ((kup (kup (kup σ a 0 (σ a2 0)) a 1 ((kup σ a 0 (σ a2 0)) a2 1)) a 2 ((kup (kup σ a 0 (σ a2 0)) a 1 ((kup σ a 0 (σ a2 0)) a2 1)) a2 2)) a2 3)) a 4 ((kup (kup (kup (kup σ a 0 (σ a2 0)) a 1 ((kup σ a 0 (σ a2 0)) a2 1)) a 2 ((kup (kup σ a 0 (σ a2 0)) a 1 ((kup σ a 0 (σ a2 0)) a2 1)) a2 2)) a 3 ((kup (kup (kup σ a 0 (σ a2 0)) a 1 ((kup σ a 0 (σ a2 0)) a2 1)) a 2 ((kup (kup σ a 0 (σ a2 0)) a 1 ((kup σ a 0 (σ a2 0)) a2 1)) a2 2)) a2 3)) a2 4)) a 5 ((kup (kup (kup (kup (kup σ a 0 (σ a2 0)) a 1 ((kup σ a 0 (σ a2 0)) a2 1)) a 2 ((kup (kup σ a 0 (σ a2 0)) a 1 ((kup σ a 0 (σ a2 0)) a2 1)) a2 2)) a 3 ((kup (kup (kup σ a 0 (σ a2 0)) a 1 ((kup σ a 0 (σ a2 0)) a2 1)) a 2 ((kup (kup σ a 0 (σ a2 0)) a 1 ((kup σ a 0 (σ a2 0)) a2 1)) a2 2)) a2 3)) a 4 ((kup (kup (kup (kup σ a 0 (σ a2 0)) a 1 ((kup σ a 0 (σ a2 0)) a2 1)) a 2 ((kup (kup σ a 0 (σ a2 0)) a 1 ((kup σ a 0 (σ a2 0)) a2 1)) a2 2)) a 3 ((kup (kup (kup σ a 0 (σ a2 0)) a 1 ((kup σ a 0 (σ a2 0)) a2 1)) a 2 ((kup (kup σ a 0 (σ a2 0)) a 1 ((kup σ a 0 (σ a2 0)) a2 1)) a2 2)) a2 3)) a2 4)) a2 5)) a 6 ((kup (kup (kup (kup (kup (kup σ a 0 (σ a2 0)) a 1 ((kup σ a 0 (σ a2 0)) a2 1)) a 2 ((kup (kup σ a 0 (σ a2 0)) a 1 ((kup σ a 0 (σ a2 0)) a2 1)) a2 2)) a 3 ((kup (kup (kup σ a 0 (σ a2 0)) a 1 ((kup σ a 0 (σ a2 0)) a2 1)) a 2 ((kup (kup σ a 0 (σ a2 0)) a 1 ((kup σ a 0 (σ a2 0)) a2 1)) a2 2)) a2 3)) a 4 ((kup (kup (kup (kup σ a 0 (σ a2 0)) a 1 ((kup σ a 0 (σ a2 0)) a2 1)) a 2 ((kup (kup σ a 0 (σ a2 0)) a 1 ((kup σ a 0 (σ a2 0)) a2 1)) a2 2)) a 3 ((kup (kup (kup σ a 0 (σ a2 0)) a 1 ((kup σ a 0 (σ a2 0)) a2 1)) a 2 ((kup (kup σ a 0 (σ a2 0)) a 1 ((kup σ a 0 (σ a2 0)) a2 1)) a2 2)) a2 3)) a2 4)) a 5 ((kup (kup (kup (kup (kup σ a 0 (σ a2 0)) a 1 ((kup σ a 0 (σ a2 0)) a2 1)) a 2 ((kup (kup σ a 0 (σ a2 0)) a 1 ((kup σ a 0 (σ a2 0)) a2 1)) a2 2)) a 3 ((kup (kup (kup σ a 0 (σ a2 0)) a 1 ((kup σ a 0 (σ a2 0)) a2 1)) a 2 ((kup (kup σ a 0 (σ a2 0)) a 1 ((kup σ a 0 (σ a2 0)) a2 1)) a2 2)) a2 3)) a 4 ((kup (kup (kup (kup σ a 0 (σ a2 0)) a 1 ((kup σ a 0 (σ a2 0)) a2 1)) a 2 ((kup (kup σ a 0 (σ a2 0)) a 1 ((kup σ a 0 (σ a2 0)) a2 1)) a2 2)) a 3 ((kup (kup (kup σ a 0 (σ a2 0)) a 1 ((kup σ a 0 (σ a2 0)) a2 1)) a 2 ((kup (kup σ a 0 (σ a2 0)) a 1 ((kup σ a 0 (σ a2 0)) a2 1)) a2 2)) a2 3)) a2 4)) a2 5)) a2 6)) a 7 ((kup (kup (kup (kup (kup (kup (kup σ a 0 (σ a2 0)) a 1 ((kup σ a 0 (σ a2 0)) a2 1)) a 2 ((kup (kup σ a 0 (σ a2 0)) a 1 ((kup σ a 0 (σ a2 0)) a2 1)) a2 2)) a 3 ((kup (kup (kup σ a 0 (σ a2 0)) a 1 ((kup σ a 0 (σ a2 0)) a2 1)) a 2 ((kup (kup σ a 0 (σ a2 0)) a 1 ((kup σ a 0 (σ a2 0)) a2 1)) a2 2)) a2 3)) a 4 ((kup (kup (kup (kup σ a 0 (σ a2 0)) a 1 ((kup σ a 0 (σ a2 0)) a2 1)) a 2 ((kup (kup σ a 0 (σ a2 0)) a 1 ((kup σ a 0 (σ a2 0)) a2 1)) a2 2)) a 3 ((kup (kup (kup σ a 0 (σ a2 0)) a 1 ((kup σ a 0 (σ a2 0)) a2 1)) a 2 ((kup (kup σ a 0 (σ a2 0)) a 1 ((kup σ a 0 (σ a2 0)) a2 1)) a2 2)) a2 3)) a2 4)) a 5 ((kup (kup (kup (kup (kup σ a 0 (σ a2 0)) a 1 ((kup σ a 0 (σ a2 0)) a2 1)) a 2 ((kup (kup σ a 0 (σ a2 0)) a 1 ((kup σ a 0 (σ a2 0)) a2 1)) a2 2)) a 3 ((kup (kup (kup σ a 0 (σ a2 0)) a 1 ((kup σ a 0 (σ a2 0)) a2 1)) a 2 ((kup (kup σ a 0 (σ a2 0)) a 1 ((kup σ a 0 (σ a2 0)) a2 1)) a2 2)) a2 3)) a 4 ((kup (kup (kup (kup σ a 0 (σ a2 0)) a 1 ((kup σ a 0 (σ a2 0)) a2 1)) a 2 ((kup (kup σ a 0 (σ a2 0)) a 1 ((kup σ a 0 (σ a2 0)) a2 1)) a2 2)) a 3 ((kup (kup (kup σ a 0 (σ a2 0)) a 1 ((kup σ a 0 (σ a2 0)) a2 1)) a 2 ((kup (kup σ a 0 (σ a2 0)) a 1 ((kup σ a 0 (σ a2 0)) a2 1)) a2 2)) a2 3)) a2 4)) a2 5)) a 6 ((kup (kup (kup (kup (kup (kup σ a 0 (σ a2 0)) a 1 ((kup σ a 0 (σ a2 0)) a2 1)) a 2 ((kup (kup σ a 0 (σ a2 0)) a 1 ((kup σ a 0 (σ a2 0)) a2 1)) a2 2)) a 3 ((kup (kup (kup σ a 0 (σ a2 0)) a 1 ((kup σ a 0 (σ a2 0)) a2 1)) a 2 ((kup (kup σ a 0 (σ a2 0)) a 1 ((kup σ a 0 (σ a2 0)) a2 1)) a2 2)) a2 3)) a 4 ((kup (kup (kup (kup σ a 0 (σ a2 0)) a 1 ((kup σ a 0 (σ a2 0)) a2 1)) a 2 ((kup (kup σ a 0 (σ a2 0)) a 1 ((kup σ a 0 (σ a2 0)) a2 1)) a2 2)) a 3 ((kup (kup (kup σ a 0 (σ a2 0)) a 1 ((kup σ a 0 (σ a2 0)) a2 1)) a 2 ((kup (kup σ a 0 (σ a2 0)) a 1 ((kup σ a 0 (σ a2 0)) a2 1)) a2 2)) a2 3)) a2 4)) a 5 ((kup (kup (kup (kup (kup σ a 0 (σ a2 0)) a 1 ((kup σ a 0 (σ a2 0)) a2 1)) a 2 ((kup (kup σ a 0 (σ a2 0)) a 1 ((kup σ a 0 (σ a2 0)) a2 1)) a2 2)) a 3 ((kup (kup (kup σ a 0 (σ a2 0)) a 1 ((kup σ a 0 (σ a2 0)) a2 1)) a 2 ((kup (kup σ a 0 (σ a2 0)) a 1 ((kup σ a 0 (σ a2 0)) a2 1)) a2 2)) a2 3)) a 4 ((kup (kup (kup (kup σ a 0 (σ a2 0)) a 1 ((kup σ a 0 (σ a2 0)) a2 1)) a 2 ((kup (kup σ a 0 (σ a2 0)) a 1 ((kup σ a 0 (σ a2 0)) a2 1)) a2 2)) a 3 ((kup (kup (kup σ a 0 (σ a2 0)) a 1 ((kup σ a 0 (σ a2 0)) a2 1)) a 2 ((kup (kup σ a 0 (σ a2 0)) a 1 ((kup σ a 0 (σ a2 0)) a2 1)) a2 2)) a2 3)) a2 4)) a2 5)) a2 6)) a2 7)) a 8 ((kup (kup (kup (kup (kup (kup (kup (kup σ a 0 (σ a2 0)) a 1 ((kup σ a 0 (σ a2 0)) a2 1)) a 2 ((kup (kup σ a 0 (σ a2 0)) a 1 ((kup σ a 0 (σ a2 0)) a2 1)) a2 2)) a 3 ((kup (kup (kup σ a 0 (σ a2 0)) a 1 ((kup σ a 0 (σ a2 0)) a2 1)) a 2 ((kup (kup σ a 0 (σ a2 0)) a 1 ((kup σ a 0 (σ a2 0)) a2 1)) a2 2)) a2 3)) a 4 ((kup (kup (kup (kup σ a 0 (σ a2 0)) a 1 ((kup σ a 0 (σ a2 0)) a2 1)) a 2 ((kup (kup σ a 0 (σ a2 0)) a 1 ((kup σ a 0 (σ a2 0)) a2 1)) a2 2)) a 3 ((kup (kup (kup σ a 0 (σ a2 0)) a 1 ((kup σ a 0 (σ a2 0)) a2 1)) a 2 ((kup (kup σ a 0 (σ a2 0)) a 1 ((kup σ a 0 (σ a2 0)) a2 1)) a2 2)) a2 3)) a2 4)) a 5 ((kup (kup (kup (kup (kup σ a 0 (σ a2 0)) a 1 ((kup σ a 0 (σ a2 0)) a2 1)) a 2 ((kup (kup σ a 0 (σ a2 0)) a 1 ((kup σ a 0 (σ a2 0)) a2 1)) a2 2)) a 3 ((kup (kup (kup σ a 0 (σ a2 0)) a 1 ((kup σ a 0 (σ a2 0)) a2 1)) a 2 ((kup (kup σ a 0 (σ a2 0)) a 1 ((kup σ a 0 (σ a2 0)) a2 1)) a2 2)) a2 3)) a 4 ((kup (kup (kup (kup σ a 0 (σ a2 0)) a 1 ((kup σ a 0 (σ a2 0)) a2 1)) a 2 ((kup (kup σ a 0 (σ a2 0)) a 1 ((kup σ a 0 (σ a2 0)) a2 1)) a2 2)) a 3 ((kup (kup (kup σ a 0 (σ a2 0)) a 1 ((kup σ a 0 (σ a2 0)) a2 1)) a 2 ((kup (kup σ a 0 (σ a2 0)) a 1 ((kup σ a 0 (σ a2 0)) a2 1)) a2 2)) a2 3)) a2 4)) a2 5)) a 6 ((kup (kup (kup (kup (kup (kup σ a 0 (σ a2 0)) a 1 ((kup σ a 0 (σ a2 0)) a2 1)) a 2 ((kup (kup σ a 0 (σ a2 0)) a 1 ((kup σ a 0 (σ a2 0)) a2 1)) a2 2)) a 3 ((kup (kup (kup σ a 0 (σ a2 0)) a 1 ((kup σ a 0 (σ a2 0)) a2 1)) a 2 ((kup (kup σ a 0 (σ a2 0)) a 1 ((kup σ a 0 (σ a2 0)) a2 1)) a2 2)) a2 3)) a 4 ((kup (kup (kup (kup σ a 0 (σ a2 0)) a 1 ((kup σ a 0 (σ a2 0)) a2 1)) a 2 ((kup (kup σ a 0 (σ a2 0)) a 1 ((kup σ a 0 (σ a2 0)) a2 1)) a2 2)) a 3 ((kup (kup (kup σ a 0 (σ a2 0)) a 1 ((kup σ a 0 (σ a2 0)) a2 1)) a 2 ((kup (kup σ a 0 (σ a2 0)) a 1 ((kup σ a 0 (σ a2 0)) a2 1)) a2 2)) a2 3)) a2 4)) a 5 ((kup (kup (kup (kup (kup σ a 0 (σ a2 0)) a 1 ((kup σ a 0 (σ a2 0)) a2 1)) a 2 ((kup (kup σ a 0 (σ a2 0)) a 1 ((kup σ a 0 (σ a2 0)) a2 1)) a2 2)) a 3 ((kup (kup (kup σ a 0 (σ a2 0)) a 1 ((kup σ a 0 (σ a2 0)) a2 1)) a 2 ((kup (kup σ a 0 (σ a2 0)) a 1 ((kup σ a 0 (σ a2 0)) a2 1)) a2 2)) a2 3)) a 4 ((kup (kup (kup (kup σ a 0 (σ a2 0)) a 1 ((kup σ a 0 (σ a2 0)) a2 1)) a 2 ((kup (kup σ a 0 (σ a2 0)) a 1 ((kup σ a 0 (σ a2 0)) a2 1)) a2 2)) a 3 ((kup (kup (kup σ a 0 (σ a2 0)) a 1 ((kup σ a 0 (σ a2 0)) a2 1)) a 2 ((kup (kup σ a 0 (σ a2 0)) a 1 ((kup σ a 0 (σ a2 0)) a2 1)) a2 2)) a2 3)) a2 4)) a2 5)) a2 6)) a 7 ((kup (kup (kup (kup (kup (kup (kup σ a 0 (σ a2 0)) a 1 ((kup σ a 0 (σ a2 0)) a2 1)) a 2 ((kup (kup σ a 0 (σ a2 0)) a 1 ((kup σ a 0 (σ a2 0)) a2 1)) a2 2)) a 3 ((kup (kup (kup σ a 0 (σ a2 0)) a 1 ((kup σ a 0 (σ a2 0)) a2 1)) a 2 ((kup (kup σ a 0 (σ a2 0)) a 1 ((kup σ a 0 (σ a2 0)) a2 1)) a2 2)) a2 3)) a 4 ((kup (kup (kup (kup σ a 0 (σ a2 0)) a 1 ((kup σ a 0 (σ a2 0)) a2 1)) a 2 ((kup (kup σ a 0 (σ a2 0)) a 1 ((kup σ a 0 (σ a2 0)) a2 1)) a2 2)) a 3 ((kup (kup (kup σ a 0 (σ a2 0)) a 1 ((kup σ a 0 (σ a2 0)) a2 1)) a 2 ((kup (kup σ a 0 (σ a2 0)) a 1 ((kup σ a 0 (σ a2 0)) a2 1)) a2 2)) a2 3)) a2 4)) a 5 ((kup (kup (kup (kup (kup σ a 0 (σ a2 0)) a 1 ((kup σ a 0 (σ a2 0)) a2 1)) a 2 ((kup (kup σ a 0 (σ a2 0)) a 1 ((kup σ a 0 (σ a2 0)) a2 1)) a2 2)) a 3 ((kup (kup (kup σ a 0 (σ a2 0)) a 1 ((kup σ a 0 (σ a2 0)) a2 1)) a 2 ((kup (kup σ a 0 (σ a2 0)) a 1 ((kup σ a 0 (σ a2 0)) a2 1)) a2 2)) a2 3)) a 4 ((kup (kup (kup (kup σ a 0 (σ a2 0)) a 1 ((kup σ a 0 (σ a2 0)) a2 1)) a 2 ((kup (kup σ a 0 (σ a2 0)) a 1 ((kup σ a 0 (σ a2 0)) a2 1)) a2 2)) a 3 ((kup (kup (kup σ a 0 (σ a2 0)) a 1 ((kup σ a 0 (σ a2 0)) a2 1)) a 2 ((kup (kup σ a 0 (σ a2 0)) a 1 ((kup σ a 0 (σ a2 0)) a2 1)) a2 2)) a2 3)) a2 4)) a2 5)) a 6 ((kup (kup (kup (kup (kup (kup σ a 0 (σ a2 0)) a 1 ((kup σ a 0 (σ a2 0)) a2 1)) a 2 ((kup (kup σ a 0 (σ a2 0)) a 1 ((kup σ a 0 (σ a2 0)) a2 1)) a2 2)) a 3 ((kup (kup (kup σ a 0 (σ a2 0)) a 1 ((kup σ a 0 (σ a2 0)) a2 1)) a 2 ((kup (kup σ a 0 (σ a2 0)) a 1 ((kup σ a 0 (σ a2 0)) a2 1)) a2 2)) a2 3)) a 4 ((kup (kup (kup (kup σ a 0 (σ a2 0)) a 1 ((kup σ a 0 (σ a2 0)) a2 1)) a 2 ((kup (kup σ a 0 (σ a2 0)) a 1 ((kup σ a 0 (σ a2 0)) a2 1)) a2 2)) a 3 ((kup (kup (kup σ a 0 (σ a2 0)) a 1 ((kup σ a 0 (σ a2 0)) a2 1)) a 2 ((kup (kup σ a 0 (σ a2 0)) a 1 ((kup σ a 0 (σ a2 0)) a2 1)) a2 2)) a2 3)) a2 4)) a 5 ((kup (kup (kup (kup (kup σ a 0 (σ a2 0)) a 1 ((kup σ a 0 (σ a2 0)) a2 1)) a 2 ((kup (kup σ a 0 (σ a2 0)) a 1 ((kup σ a 0 (σ a2 0)) a2 1)) a2 2)) a 3 ((kup (kup (kup σ a 0 (σ a2 0)) a 1 ((kup σ a 0 (σ a2 0)) a2 1)) a 2 ((kup (kup σ a 0 (σ a2 0)) a 1 ((kup σ a 0 (σ a2 0)) a2 1)) a2 2)) a2 3)) a 4 ((kup (kup (kup (kup σ a 0 (σ a2 0)) a 1 ((kup σ a 0 (σ a2 0)) a2 1)) a 2 ((kup (kup σ a 0 (σ a2 0)) a 1 ((kup σ a 0 (σ a2 0)) a2 1)) a2 2)) a 3 ((kup (kup (kup σ a 0 (σ a2 0)) a 1 ((kup σ a 0 (σ a2 0)) a2 1)) a 2 ((kup (kup σ a 0 (σ a2 0)) a 1 ((kup σ a 0 (σ a2 0)) a2 1)) a2 2)) a2 3)) a2 4)) a2 5)) a2 6)) a2 7)) a2 8)) a2 9 = 0 ∨ (kup (kup (kup (kup (kup (kup (kup (kup (kup σ a 0 (σ a2 0)) a 1 ((kup σ a 0 (σ a2 0)) a2 1)) a 2 ((kup (kup σ a 0 (σ a2 0)) a 1 ((kup σ a 0 (σ a2 0)) a2 1)) a2 2)) a 3 ((kup (kup (kup σ a 0 (σ a2 0)) a 1 ((kup σ a 0 (σ a2 0)) a2 1)) a 2 ((kup (kup σ a 0 (σ a2 0)) a 1 ((kup σ a 0 (σ a2 0)) a2 1)) a2 2)) a2 3)) a 4 ((kup (kup (kup (kup σ a 0 (σ a2 0)) a 1 ((kup σ a 0 (σ a2 0)) a2 1)) a 2 ((kup (kup σ a 0 (σ a2 0)) a 1 ((kup σ a 0 (σ a2 0)) a2 1)) a2 2)) a 3 ((kup (kup (kup σ a 0 (σ a2 0)) a 1 ((kup σ a 0 (σ a2 0)) a2 1)) a 2 ((kup (kup σ a 0 (σ a2 0)) a 1 ((kup σ a 0 (σ a2 0)) a2 1)) a2 2)) a2 3)) a2 4)) a 5 ((kup (kup (kup (kup (kup σ a 0 (σ a2 0)) a 1 ((kup σ a 0 (σ a2 0)) a2 1)) a 2 ((kup (kup σ a 0 (σ a2 0)) a 1 ((kup σ a 0 (σ a2 0)) a2 1)) a2 2)) a 3 ((kup (kup (kup σ a 0 (σ a2 0)) a 1 ((kup σ a 0 (σ a2 0)) a2 1)) a 2 ((kup (kup σ a 0 (σ a2 0)) a 1 ((kup σ a 0 (σ a2 0)) a2 1)) a2 2)) a2 3)) a 4 ((kup (kup (kup (kup σ a 0 (σ a2 0)) a 1 ((kup σ a 0 (σ a2 0)) a2 1)) a 2 ((kup (kup σ a 0 (σ a2 0)) a 1 ((kup σ a 0 (σ a2 0)) a2 1)) a2 2)) a 3 ((kup (kup (kup σ a 0 (σ a2 0)) a 1 ((kup σ a 0 (σ a2 0)) a2 1)) a 2 ((kup (kup σ a 0 (σ a2 0)) a 1 ((kup σ a 0 (σ a2 0)) a2 1)) a2 2)) a2 3)) a2 4)) a2 5)) a 6 ((kup (kup (kup (kup (kup (kup σ a 0 (σ a2 0)) a 1 ((kup σ a 0 (σ a2 0)) a2 1)) a 2 ((kup (kup σ a 0 (σ a2 0)) a 1 ((kup σ a 0 (σ a2 0)) a2 1)) a2 2)) a 3 ((kup (kup (kup σ a 0 (σ a2 0)) a 1 ((kup σ a 0 (σ a2 0)) a2 1)) a 2 ((kup (kup σ a 0 (σ a2 0)) a 1 ((kup σ a 0 (σ a2 0)) a2 1)) a2 2)) a2 3)) a 4 ((kup (kup (kup (kup σ a 0 (σ a2 0)) a 1 ((kup σ a 0 (σ a2 0)) a2 1)) a 2 ((kup (kup σ a 0 (σ a2 0)) a 1 ((kup σ a 0 (σ a2 0)) a2 1)) a2 2)) a 3 ((kup (kup (kup σ a 0 (σ a2 0)) a 1 ((kup σ a 0 (σ a2 0)) a2 1)) a 2 ((kup (kup σ a 0 (σ a2 0)) a 1 ((kup σ a 0 (σ a2 0)) a2 1)) a2 2)) a2 3)) a2 4)) a 5 ((kup (kup (kup (kup (kup σ a 0 (σ a2 0)) a 1 ((kup σ a 0 (σ a2 0)) a2 1)) a 2 ((kup (kup σ a 0 (σ a2 0)) a 1 ((kup σ a 0 (σ a2 0)) a2 1)) a2 2)) a 3 ((kup (kup (kup σ a 0 (σ a2 0)) a 1 ((kup σ a 0 (σ a2 0)) a2 1)) a 2 ((kup (kup σ a 0 (σ a2 0)) a 1 ((kup σ a 0 (σ a2 0)) a2 1)) a2 2)) a2 3)) a 4 ((kup (kup (kup (kup σ a 0 (σ a2 0)) a 1 ((kup σ a 0 (σ a2 0)) a2 1)) a 2 ((kup (kup σ a 0 (σ a2 0)) a 1 ((kup σ a 0 (σ a2 0)) a2 1)) a2 2)) a 3 ((kup (kup (kup σ a 0 (σ a2 0)) a 1 ((kup σ a 0 (σ a2 0)) a2 1)) a 2 ((kup (kup σ a 0 (σ a2 0)) a 1 ((kup σ a 0 (σ a2 0)) a2 1)) a2 2)) a2 3)) a2 4)) a2 5)) a2 6)) a 7 ((kup (kup (kup (kup (kup (kup (kup σ a 0 (σ a2 0)) a 1 ((kup σ a 0 (σ a2 0)) a2 1)) a 2 ((kup (kup σ a 0 (σ a2 0)) a 1 ((kup σ a 0 (σ a2 0)) a2 1)) a2 2)) a 3 ((kup (kup (kup σ a 0 (σ a2 0)) a 1 ((kup σ a 0 (σ a2 0)) a2 1)) a 2 ((kup (kup σ a 0 (σ a2 0)) a 1 ((kup σ a 0 (σ a2 0)) a2 1)) a2 2)) a2 3)) a 4 ((kup (kup (kup (kup σ a 0 (σ a2 0)) a 1 ((kup σ a 0 (σ a2 0)) a2 1)) a 2 ((kup (kup σ a 0 (σ a2 0)) a 1 ((kup σ a 0 (σ a2 0)) a2 1)) a2 2)) a 3 ((kup (kup (kup σ a 0 (σ a2 0)) a 1 ((kup σ a 0 (σ a2 0)) a2 1)) a 2 ((kup (kup σ a 0 (σ a2 0)) a 1 ((kup σ a 0 (σ a2 0)) a2 1)) a2 2)) a2 3)) a2 4)) a 5 ((kup (kup (kup (kup (kup σ a 0 (σ a2 0)) a 1 ((kup σ a 0 (σ a2 0)) a2 1)) a 2 ((kup (kup σ a 0 (σ a2 0)) a 1 ((kup σ a 0 (σ a2 0)) a2 1)) a2 2)) a 3 ((kup (kup (kup σ a 0 (σ a2 0)) a 1 ((kup σ a 0 (σ a2 0)) a2 1)) a 2 ((kup (kup σ a 0 (σ a2 0)) a 1 ((kup σ a 0 (σ a2 0)) a2 1)) a2 2)) a2 3)) a 4 ((kup (kup (kup (kup σ a 0 (σ a2 0)) a 1 ((kup σ a 0 (σ a2 0)) a2 1)) a 2 ((kup (kup σ a 0 (σ a2 0)) a 1 ((kup σ a 0 (σ a2 0)) a2 1)) a2 2)) a 3 ((kup (kup (kup σ a 0 (σ a2 0)) a 1 ((kup σ a 0 (σ a2 0)) a2 1)) a 2 ((kup (kup σ a 0 (σ a2 0)) a 1 ((kup σ a 0 (σ a2 0)) a2 1)) a2 2)) a2 3)) a2 4)) a2 5)) a 6 ((kup (kup (kup (kup (kup (kup σ a 0 (σ a2 0)) a 1 ((kup σ a 0 (σ a2 0)) a2 1)) a 2 ((kup (kup σ a 0 (σ a2 0)) a 1 ((kup σ a 0 (σ a2 0)) a2 1)) a2 2)) a 3 ((kup (kup (kup σ a 0 (σ a2 0)) a 1 ((kup σ a 0 (σ a2 0)) a2 1)) a 2 ((kup (kup σ a 0 (σ a2 0)) a 1 ((kup σ a 0 (σ a2 0)) a2 1)) a2 2)) a2 3)) a 4 ((kup (kup (kup (kup σ a 0 (σ a2 0)) a 1 ((kup σ a 0 (σ a2 0)) a2 1)) a 2 ((kup (kup σ a 0 (σ a2 0)) a 1 ((kup σ a 0 (σ a2 0)) a2 1)) a2 2)) a 3 ((kup (kup (kup σ a 0 (σ a2 0)) a 1 ((kup σ a 0 (σ a2 0)) a2 1)) a 2 ((kup (kup σ a 0 (σ a2 0)) a 1 ((kup σ a 0 (σ a2 0)) a2 1)) a2 2)) a2 3)) a2 4)) a 5 ((kup (kup (kup (kup (kup σ a 0 (σ a2 0)) a 1 ((kup σ a 0 (σ a2 0)) a2 1)) a 2 ((kup (kup σ a 0 (σ a2 0)) a 1 ((kup σ a 0 (σ a2 0)) a2 1)) a2 2)) a 3 ((kup (kup (kup σ a 0 (σ a2 0)) a 1 ((kup σ a 0 (σ a2 0)) a2 1)) a 2 ((kup (kup σ a 0 (σ a2 0)) a 1 ((kup σ a 0 (σ a2 0)) a2 1)) a2 2)) a2 3)) a 4 ((kup (kup (kup (kup σ a 0 (σ a2 0)) a 1 ((kup σ a 0 (σ a2 0)) a2 1)) a 2 ((kup (kup σ a 0 (σ a2 0)) a 1 ((kup σ a 0 (σ a2 0)) a2 1)) a2 2)) a 3 ((kup (kup (kup σ a 0 (σ a2 0)) a 1 ((kup σ a 0 (σ a2 0)) a2 1)) a 2 ((kup (kup σ a 0 (σ a2 0)) a 1 ((kup σ a 0 (σ a2 0)) a2 1)) a2 2)) a2 3)) a2 4)) a2 5)) a2 6)) a2 7)) a 8 ((kup (kup (kup (kup (kup (kup (kup (kup σ a 0 (σ a2 0)) a 1 ((kup σ a 0 (σ a2 0)) a2 1)) a 2 ((kup (kup σ a 0 (σ a2 0)) a 1 ((kup σ a 0 (σ a2 0)) a2 1)) a2 2)) a 3 ((kup (kup (kup σ a 0 (σ a2 0)) a 1 ((kup σ a 0 (σ a2 0)) a2 1)) a 2 ((kup (kup σ a 0 (σ a2 0)) a 1 ((kup σ a 0 (σ a2 0)) a2 1)) a2 2)) a2 3)) a 4 ((kup (kup (kup (kup σ a 0 (σ a2 0)) a 1 ((kup σ a 0 (σ a2 0)) a2 1)) a 2 ((kup (kup σ a 0 (σ a2 0)) a 1 ((kup σ a 0 (σ a2 0)) a2 1)) a2 2)) a 3 ((kup (kup (kup σ a 0 (σ a2 0)) a 1 ((kup σ a 0 (σ a2 0)) a2 1)) a 2 ((kup (kup σ a 0 (σ a2 0)) a 1 ((kup σ a 0 (σ a2 0)) a2 1)) a2 2)) a2 3)) a2 4)) a 5 ((kup (kup (kup (kup (kup σ a 0 (σ a2 0)) a 1 ((kup σ a 0 (σ a2 0)) a2 1)) a 2 ((kup (kup σ a 0 (σ a2 0)) a 1 ((kup σ a 0 (σ a2 0)) a2 1)) a2 2)) a 3 ((kup (kup (kup σ a 0 (σ a2 0)) a 1 ((kup σ a 0 (σ a2 0)) a2 1)) a 2 ((kup (kup σ a 0 (σ a2 0)) a 1 ((kup σ a 0 (σ a2 0)) a2 1)) a2 2)) a2 3)) a 4 ((kup (kup (kup (kup σ a 0 (σ a2 0)) a 1 ((kup σ a 0 (σ a2 0)) a2 1)) a 2 ((kup (kup σ a 0 (σ a2 0)) a 1 ((kup σ a 0 (σ a2 0)) a2 1)) a2 2)) a 3 ((kup (kup (kup σ a 0 (σ a2 0)) a 1 ((kup σ a 0 (σ a2 0)) a2 1)) a 2 ((kup (kup σ a 0 (σ a2 0)) a 1 ((kup σ a 0 (σ a2 0)) a2 1)) a2 2)) a2 3)) a2 4)) a2 5)) a 6 ((kup (kup (kup (kup (kup (kup σ a 0 (σ a2 0)) a 1 ((kup σ a 0 (σ a2 0)) a2 1)) a 2 ((kup (kup σ a 0 (σ a2 0)) a 1 ((kup σ a 0 (σ a2 0)) a2 1)) a2 2)) a 3 ((kup (kup (kup σ a 0 (σ a2 0)) a 1 ((kup σ a 0 (σ a2 0)) a2 1)) a 2 ((kup (kup σ a 0 (σ a2 0)) a 1 ((kup σ a 0 (σ a2 0)) a2 1)) a2 2)) a2 3)) a 4 ((kup (kup (kup (kup σ a 0 (σ a2 0)) a 1 ((kup σ a 0 (σ a2 0)) a2 1)) a 2 ((kup (kup σ a 0 (σ a2 0)) a 1 ((kup σ a 0 (σ a2 0)) a2 1)) a2 2)) a 3 ((kup (kup (kup σ a 0 (σ a2 0)) a 1 ((kup σ a 0 (σ a2 0)) a2 1)) a 2 ((kup (kup σ a 0 (σ a2 0)) a 1 ((kup σ a 0 (σ a2 0)) a2 1)) a2 2)) a2 3)) a2 4)) a 5 ((kup (kup (kup (kup (kup σ a 0 (σ a2 0)) a 1 ((kup σ a 0 (σ a2 0)) a2 1)) a 2 ((kup (kup σ a 0 (σ a2 0)) a 1 ((kup σ a 0 (σ a2 0)) a2 1)) a2 2)) a 3 ((kup (kup (kup σ a 0 (σ a2 0)) a 1 ((kup σ a 0 (σ a2 0)) a2 1)) a 2 ((kup (kup σ a 0 (σ a2 0)) a 1 ((kup σ a 0 (σ a2 0)) a2 1)) a2 2)) a2 3)) a 4 ((kup (kup (kup (kup σ a 0 (σ a2 0)) a 1 ((kup σ a 0 (σ a2 0)) a2 1)) a 2 ((kup (kup σ a 0 (σ a2 0)) a 1 ((kup σ a 0 (σ a2 0)) a2 1)) a2 2)) a 3 ((kup (kup (kup σ a 0 (σ a2 0)) a 1 ((kup σ a 0 (σ a2 0)) a2 1)) a 2 ((kup (kup σ a 0 (σ a2 0)) a 1 ((kup σ a 0 (σ a2 0)) a2 1)) a2 2)) a2 3)) a2 4)) a2 5)) a2 6)) a 7 ((kup (kup (kup (kup (kup (kup (kup σ a 0 (σ a2 0)) a 1 ((kup σ a 0 (σ a2 0)) a2 1)) a 2 ((kup (kup σ a 0 (σ a2 0)) a 1 ((kup σ a 0 (σ a2 0)) a2 1)) a2 2)) a 3 ((kup (kup (kup σ a 0 (σ a2 0)) a 1 ((kup σ a 0 (σ a2 0)) a2 1)) a 2 ((kup (kup σ a 0 (σ a2 0)) a 1 ((kup σ a 0 (σ a2 0)) a2 1)) a2 2)) a2 3)) a 4 ((kup (kup (kup (kup σ a 0 (σ a2 0)) a 1 ((kup σ a 0 (σ a2 0)) a2 1)) a 2 ((kup (kup σ a 0 (σ a2 0)) a 1 ((kup σ a 0 (σ a2 0)) a2 1)) a2 2)) a 3 ((kup (kup (kup σ a 0 (σ a2 0)) a 1 ((kup σ a 0 (σ a2 0)) a2 1)) a 2 ((kup (kup σ a 0 (σ a2 0)) a 1 ((kup σ a 0 (σ a2 0)) a2 1)) a2 2)) a2 3)) a2 4)) a 5 ((kup (kup (kup (kup (kup σ a 0 (σ a2 0)) a 1 ((kup σ a 0 (σ a2 0)) a2 1)) a 2 ((kup (kup σ a 0 (σ a2 0)) a 1 ((kup σ a 0 (σ a2 0)) a2 1)) a2 2)) a 3 ((kup (kup (kup σ a 0 (σ a2 0)) a 1 ((kup σ a 0 (σ a2 0)) a2 1)) a 2 ((kup (kup σ a 0 (σ a2 0)) a 1 ((kup σ a 0 (σ a2 0)) a2 1)) a2 2)) a2 3)) a 4 ((kup (kup (kup (kup σ a 0 (σ a2 0)) a 1 ((kup σ a 0 (σ a2 0)) a2 1)) a 2 ((kup (kup σ a 0 (σ a2 0)) a 1 ((kup σ a 0 (σ a2 0)) a2 1)) a2 2)) a 3 ((kup (kup (kup σ a 0 (σ a2 0)) a 1 ((kup σ a 0 (σ a2 0)) a2 1)) a 2 ((kup (kup σ a 0 (σ a2 0)) a 1 ((kup σ a 0 (σ a2 0)) a2 1)) a2 2)) a2 3)) a2 4)) a2 5)) a 6 ((kup (kup (kup (kup (kup (kup σ a 0 (σ a2 0)) a 1 ((kup σ a 0 (σ a2 0)) a2 1)) a 2 ((kup (kup σ a 0 (σ a2 0)) a 1 ((kup σ a 0 (σ a2 0)) a2 1)) a2 2)) a 3 ((kup (kup (kup σ a 0 (σ a2 0)) a 1 ((kup σ a 0 (σ a2 0)) a2 1)) a 2 ((kup (kup σ a 0 (σ a2 0)) a 1 ((kup σ a 0 (σ a2 0)) a2 1)) a2 2)) a2 3)) a 4 ((kup (kup (kup (kup σ a 0 (σ a2 0)) a 1 ((kup σ a 0 (σ a2 0)) a2 1)) a 2 ((kup (kup σ a 0 (σ a2 0)) a 1 ((kup σ a 0 (σ a2 0)) a2 1)) a2 2)) a 3 ((kup (kup (kup σ a 0 (σ a2 0)) a 1 ((kup σ a 0 (σ a2 0)) a2 1)) a 2 ((kup (kup σ a 0 (σ a2 0)) a 1 ((kup σ a 0 (σ a2 0)) a2 1)) a2 2)) a2 3)) a2 4)) a 5 ((kup (kup (kup (kup (kup σ a 0 (σ a2 0)) a 1 ((kup σ a 0 (σ a2 0)) a2 1)) a 2 ((kup (kup σ a 0 (σ a2 0)) a 1 ((kup σ a 0 (σ a2 0)) a2 1)) a2 2)) a 3 ((kup (kup (kup σ a 0 (σ a2 0)) a 1 ((kup σ a 0 (σ a2 0)) a2 1)) a 2 ((kup (kup σ a 0 (σ a2 0)) a 1 ((kup σ a 0 (σ a2 0)) a2 1)) a2 2)) a2 3)) a 4 ((kup (kup (kup (kup σ a 0 (σ a2 0)) a 1 ((kup σ a 0 (σ a2 0)) a2 1)) a 2 ((kup (kup σ a 0 (σ a2 0)) a 1 ((kup σ a 0 (σ a2 0)) a2 1)) a2 2)) a 3 ((kup (kup (kup σ a 0 (σ a2 0)) a 1 ((kup σ a 0 (σ a2 0)) a2 1)) a 2 ((kup (kup σ a 0 (σ a2 0)) a 1 ((kup σ a 0 (σ a2 0)) a2 1)) a2 2)) a2 3)) a2 4)) a2 5)) a2 6)) a2 7)) a2 8)) a2 9 = 1) ∧ Q 0 (kup (kup (kup (kup (kup (kup (kup (kup (kup (kup σ a 0 (σ a2 0)) a 1 ((kup σ a 0 (σ a2 0)) a2 1)) a 2 ((kup (kup σ a 0 (σ a2 0)) a 1 ((kup σ a 0 (σ a2 0)) a2 1)) a2 2)) a 3 ((kup (kup (kup σ a 0 (σ a2 0)) a 1 ((kup σ a 0 (σ a2 0)) a2 1)) a 2 ((kup (kup σ a 0 (σ a2 0)) a 1 ((kup σ a 0 (σ a2 0)) a2 1)) a2 2)) a2 3)) a 4 ((kup (kup (kup (kup σ a 0 (σ a2 0)) a 1 ((kup σ a 0 (σ a2 0)) a2 1)) a 2 ((kup (kup σ a 0 (σ a2 0)) a 1 ((kup σ a 0 (σ a2 0)) a2 1)) a2 2)) a 3 ((kup (kup (kup σ a 0 (σ a2 0)) a 1 ((kup σ a 0 (σ a2 0)) a2 1)) a 2 ((kup (kup σ a 0 (σ a2 0)) a 1 ((kup σ a 0 (σ a2 0)) a2 1)) a2 2)) a2 3)) a2 4)) a 5 ((kup (kup (kup (kup (kup σ a 0 (σ a2 0)) a 1 ((kup σ a 0 (σ a2 0)) a2 1)) a 2 ((kup (kup σ a 0 (σ a2 0)) a 1 ((kup σ a 0 (σ a2 0)) a2 1)) a2 2)) a 3 ((kup (kup (kup σ a 0 (σ a2 0)) a 1 ((kup σ a 0 (σ a2 0)) a2 1)) a 2 ((kup (kup σ a 0 (σ a2 0)) a 1 ((kup σ a 0 (σ a2 0)) a2 1)) a2 2)) a2 3)) a 4 ((kup (kup (kup (kup σ a 0 (σ a2 0)) a 1 ((kup σ a 0 (σ a2 0)) a2 1)) a 2 ((kup (kup σ a 0 (σ a2 0)) a 1 ((kup σ a 0 (σ a2 0)) a2 1)) a2 2)) a 3 ((kup (kup (kup σ a 0 (σ a2 0)) a 1 ((kup σ a 0 (σ a2 0)) a2 1)) a 2 ((kup (kup σ a 0 (σ a2 0)) a 1 ((kup σ a 0 (σ a2 0)) a2 1)) a2 2)) a2 3)) a2 4)) a2 5)) a 6 ((kup (kup (kup (kup (kup (kup σ a 0 (σ a2 0)) a 1 ((kup σ a 0 (σ a2 0)) a2 1)) a 2 ((kup (kup σ a 0 (σ a2 0)) a 1 ((kup σ a 0 (σ a2 0)) a2 1)) a2 2)) a 3 ((kup (kup (kup σ a 0 (σ a2 0)) a 1 ((kup σ a 0 (σ a2 0)) a2 1)) a 2 ((kup (kup σ a 0 (σ a2 0)) a 1 ((kup σ a 0 (σ a2 0)) a2 1)) a2 2)) a2 3)) a 4 ((kup (kup (kup (kup σ a 0 (σ a2 0)) a 1 ((kup σ a 0 (σ a2 0)) a2 1)) a 2 ((kup (kup σ a 0 (σ a2 0)) a 1 ((kup σ a 0 (σ a2 0)) a2 1)) a2 2)) a 3 ((kup (kup (kup σ a 0 (σ a2 0)) a 1 ((kup σ a 0 (σ a2 0)) a2 1)) a 2 ((kup (kup σ a 0 (σ a2 0)) a 1 ((kup σ a 0 (σ a2 0)) a2 1)) a2 2)) a2 3)) a2 4)) a 5 ((kup (kup (kup (kup (kup σ a 0 (σ a2 0)) a 1 ((kup σ a 0 (σ a2 0)) a2 1)) a 2 ((kup (kup σ a 0 (σ a2 0)) a 1 ((kup σ a 0 (σ a2 0)) a2 1)) a2 2)) a 3 ((kup (kup (kup σ a 0 (σ a2 0)) a 1 ((kup σ a 0 (σ a2 0)) a2 1)) a 2 ((kup (kup σ a 0 (σ a2 0)) a 1 ((kup σ a 0 (σ a2 0)) a2 1)) a2 2)) a2 3)) a 4 ((kup (kup (kup (kup σ a 0 (σ a2 0)) a 1 ((kup σ a 0 (σ a2 0)) a2 1)) a 2 ((kup (kup σ a 0 (σ a2 0)) a 1 ((kup σ a 0 (σ a2 0)) a2 1)) a2 2)) a 3 ((kup (kup (kup σ a 0 (σ a2 0)) a 1 ((kup σ a 0 (σ a2 0)) a2 1)) a 2 ((kup (kup σ a 0 (σ a2 0)) a 1 ((kup σ a 0 (σ a2 0)) a2 1)) a2 2)) a2 3)) a2 4)) a2 5)) a2 6)) a 7 ((kup (kup (kup (kup (kup (kup (kup σ a 0 (σ a2 0)) a 1 ((kup σ a 0 (σ a2 0)) a2 1)) a 2 ((kup (kup σ a 0 (σ a2 0)) a 1 ((kup σ a 0 (σ a2 0)) a2 1)) a2 2)) a 3 ((kup (kup (kup σ a 0 (σ a2 0)) a 1 ((kup σ a 0 (σ a2 0)) a2 1)) a 2 ((kup (kup σ a 0 (σ a2 0)) a 1 ((kup σ a 0 (σ a2 0)) a2 1)) a2 2)) a2 3)) a 4 ((kup (kup (kup (kup σ a 0 (σ a2 0)) a 1 ((kup σ a 0 (σ a2 0)) a2 1)) a 2 ((kup (kup σ a 0 (σ a2 0)) a 1 ((kup σ a 0 (σ a2 0)) a2 1)) a2 2)) a 3 ((kup (kup (kup σ a 0 (σ a2 0)) a 1 ((kup σ a 0 (σ a2 0)) a2 1)) a 2 ((kup (kup σ a 0 (σ a2 0)) a 1 ((kup σ a 0 (σ a2 0)) a2 1)) a2 2)) a2 3)) a2 4)) a 5 ((kup (kup (kup (kup (kup σ a 0 (σ a2 0)) a 1 ((kup σ a 0 (σ a2 0)) a2 1)) a 2 ((kup (kup σ a 0 (σ a2 0)) a 1 ((kup σ a 0 (σ a2 0)) a2 1)) a2 2)) a 3 ((kup (kup (kup σ a 0 (σ a2 0)) a 1 ((kup σ a 0 (σ a2 0)) a2 1)) a 2 ((kup (kup σ a 0 (σ a2 0)) a 1 ((kup σ a 0 (σ a2 0)) a2 1)) a2 2)) a2 3)) a 4 ((kup (kup (kup (kup σ a 0 (σ a2 0)) a 1 ((kup σ a 0 (σ a2 0)) a2 1)) a 2 ((kup (kup σ a 0 (σ a2 0)) a 1 ((kup σ a 0 (σ a2 0)) a2 1)) a2 2)) a 3 ((kup (kup (kup σ a 0 (σ a2 0)) a 1 ((kup σ a 0 (σ a2 0)) a2 1)) a 2 ((kup (kup σ a 0 (σ a2 0)) a 1 ((kup σ a 0 (σ a2 0)) a2 1)) a2 2)) a2 3)) a2 4)) a2 5)) a 6 ((kup (kup (kup (kup (kup (kup σ a 0 (σ a2 0)) a 1 ((kup σ a 0 (σ a2 0)) a2 1)) a 2 ((kup (kup σ a 0 (σ a2 0)) a 1 ((kup σ a 0 (σ a2 0)) a2 1)) a2 2)) a 3 ((kup (kup (kup σ a 0 (σ a2 0)) a 1 ((kup σ a 0 (σ a2 0)) a2 1)) a 2 ((kup (kup σ a 0 (σ a2 0)) a 1 ((kup σ a 0 (σ a2 0)) a2 1)) a2 2)) a2 3)) a 4 ((kup (kup (kup (kup σ a 0 (σ a2 0)) a 1 ((kup σ a 0 (σ a2 0)) a2 1)) a 2 ((kup (kup σ a 0 (σ a2 0)) a 1 ((kup σ a 0 (σ a2 0)) a2 1)) a2 2)) a 3 ((kup (kup (kup σ a 0 (σ a2 0)) a 1 ((kup σ a 0 (σ a2 0)) a2 1)) a 2 ((kup (kup σ a 0 (σ a2 0)) a 1 ((kup σ a 0 (σ a2 0)) a2 1)) a2 2)) a2 3)) a2 4)) a 5 ((kup (kup (kup (kup (kup σ a 0 (σ a2 0)) a 1 ((kup σ a 0 (σ a2 0)) a2 1)) a 2 ((kup (kup σ a 0 (σ a2 0)) a 1 ((kup σ a 0 (σ a2 0)) a2 1)) a2 2)) a 3 ((kup (kup (kup σ a 0 (σ a2 0)) a 1 ((kup σ a 0 (σ a2 0)) a2 1)) a 2 ((kup (kup σ a 0 (σ a2 0)) a 1 ((kup σ a 0 (σ a2 0)) a2 1)) a2 2)) a2 3)) a 4 ((kup (kup (kup (kup σ a 0 (σ a2 0)) a 1 ((kup σ a 0 (σ a2 0)) a2 1)) a 2 ((kup (kup σ a 0 (σ a2 0)) a 1 ((kup σ a 0 (σ a2 0)) a2 1)) a2 2)) a 3 ((kup (kup (kup σ a 0 (σ a2 0)) a 1 ((kup σ a 0 (σ a2 0)) a2 1)) a 2 ((kup (kup σ a 0 (σ a2 0)) a 1 ((kup σ a 0 (σ a2 0)) a2 1)) a2 2)) a2 3)) a2 4)) a2 5)) a2 6)) a2 7)) a 8 ((kup (kup (kup (kup (kup (kup (kup (kup σ a 0 (σ a2 0)) a 1 ((kup σ a 0 (σ a2 0)) a2 1)) a 2 ((kup (kup σ a 0 (σ a2 0)) a 1 ((kup σ a 0 (σ a2 0)) a2 1)) a2 2)) a 3 ((kup (kup (kup σ a 0 (σ a2 0)) a 1 ((kup σ a 0 (σ a2 0)) a2 1)) a 2 ((kup (kup σ a 0 (σ a2 0)) a 1 ((kup σ a 0 (σ a2 0)) a2 1)) a2 2)) a2 3)) a 4 ((kup (kup (kup (kup σ a 0 (σ a2 0)) a 1 ((kup σ a 0 (σ a2 0)) a2 1)) a 2 ((kup (kup σ a 0 (σ a2 0)) a 1 ((kup σ a 0 (σ a2 0)) a2 1)) a2 2)) a 3 ((kup (kup (kup σ a 0 (σ a2 0)) a 1 ((kup σ a 0 (σ a2 0)) a2 1)) a 2 ((kup (kup σ a 0 (σ a2 0)) a 1 ((kup σ a 0 (σ a2 0)) a2 1)) a2 2)) a2 3)) a2 4)) a 5 ((kup (kup (kup (kup (kup σ a 0 (σ a2 0)) a 1 ((kup σ a 0 (σ a2 0)) a2 1)) a 2 ((kup (kup σ a 0 (σ a2 0)) a 1 ((kup σ a 0 (σ a2 0)) a2 1)) a2 2)) a 3 ((kup (kup (kup σ a 0 (σ a2 0)) a 1 ((kup σ a 0 (σ a2 0)) a2 1)) a 2 ((kup (kup σ a 0 (σ a2 0)) a 1 ((kup σ a 0 (σ a2 0)) a2 1)) a2 2)) a2 3)) a 4 ((kup (kup (kup (kup σ a 0 (σ a2 0)) a 1 ((kup σ a 0 (σ a2 0)) a2 1)) a 2 ((kup (kup σ a 0 (σ a2 0)) a 1 ((kup σ a 0 (σ a2 0)) a2 1)) a2 2)) a 3 ((kup (kup (kup σ a 0 (σ a2 0)) a 1 ((kup σ a 0 (σ a2 0)) a2 1)) a 2 ((kup (kup σ a 0 (σ a2 0)) a 1 ((kup σ a 0 (σ a2 0)) a2 1)) a2 2)) a2 3)) a2 4)) a2 5)) a 6 ((kup (kup (kup (kup (kup (kup σ a 0 (σ a2 0)) a 1 ((kup σ a 0 (σ a2 0)) a2 1)) a 2 ((kup (kup σ a 0 (σ a2 0)) a 1 ((kup σ a 0 (σ a2 0)) a2 1)) a2 2)) a 3 ((kup (kup (kup σ a 0 (σ a2 0)) a 1 ((kup σ a 0 (σ a2 0)) a2 1)) a 2 ((kup (kup σ a 0 (σ a2 0)) a 1 ((kup σ a 0 (σ a2 0)) a2 1)) a2 2)) a2 3)) a 4 ((kup (kup (kup (kup σ a 0 (σ a2 0)) a 1 ((kup σ a 0 (σ a2 0)) a2 1)) a 2 ((kup (kup σ a 0 (σ a2 0)) a 1 ((kup σ a 0 (σ a2 0)) a2 1)) a2 2)) a 3 ((kup (kup (kup σ a 0 (σ a2 0)) a 1 ((kup σ a 0 (σ a2 0)) a2 1)) a 2 ((kup (kup σ a 0 (σ a2 0)) a 1 ((kup σ a 0 (σ a2 0)) a2 1)) a2 2)) a2 3)) a2 4)) a 5 ((kup (kup (kup (kup (kup σ a 0 (σ a2 0)) a 1 ((kup σ a 0 (σ a2 0)) a2 1)) a 2 ((kup (kup σ a 0 (σ a2 0)) a 1 ((kup σ a 0 (σ a2 0)) a2 1)) a2 2)) a 3 ((kup (kup (kup σ a 0 (σ a2 0)) a 1 ((kup σ a 0 (σ a2 0)) a2 1)) a 2 ((kup (kup σ a 0 (σ a2 0)) a 1 ((kup σ a 0 (σ a2 0)) a2 1)) a2 2)) a2 3)) a 4 ((kup (kup (kup (kup σ a 0 (σ a2 0)) a 1 ((kup σ a 0 (σ a2 0)) a2 1)) a 2 ((kup (kup σ a 0 (σ a2 0)) a 1 ((kup σ a 0 (σ a2 0)) a2 1)) a2 2)) a 3 ((kup (kup (kup σ a 0 (σ a2 0)) a 1 ((kup σ a 0 (σ a2 0)) a2 1)) a 2 ((kup (kup σ a 0 (σ a2 0)) a 1 ((kup σ a 0 (σ a2 0)) a2 1)) a2 2)) a2 3)) a2 4)) a2 5)) a2 6)) a 7 ((kup (kup (kup (kup (kup (kup (kup σ a 0 (σ a2 0)) a 1 ((kup σ a 0 (σ a2 0)) a2 1)) a 2 ((kup (kup σ a 0 (σ a2 0)) a 1 ((kup σ a 0 (σ a2 0)) a2 1)) a2 2)) a 3 ((kup (kup (kup σ a 0 (σ a2 0)) a 1 ((kup σ a 0 (σ a2 0)) a2 1)) a 2 ((kup (kup σ a 0 (σ a2 0)) a 1 ((kup σ a 0 (σ a2 0)) a2 1)) a2 2)) a2 3)) a 4 ((kup (kup (kup (kup σ a 0 (σ a2 0)) a 1 ((kup σ a 0 (σ a2 0)) a2 1)) a 2 ((kup (kup σ a 0 (σ a2 0)) a 1 ((kup σ a 0 (σ a2 0)) a2 1)) a2 2)) a 3 ((kup (kup (kup σ a 0 (σ a2 0)) a 1 ((kup σ a 0 (σ a2 0)) a2 1)) a 2 ((kup (kup σ a 0 (σ a2 0)) a 1 ((kup σ a 0 (σ a2 0)) a2 1)) a2 2)) a2 3)) a2 4)) a 5 ((kup (kup (kup (kup (kup σ a 0 (σ a2 0)) a 1 ((kup σ a 0 (σ a2 0)) a2 1)) a 2 ((kup (kup σ a 0 (σ a2 0)) a 1 ((kup σ a 0 (σ a2 0)) a2 1)) a2 2)) a 3 ((kup (kup (kup σ a 0 (σ a2 0)) a 1 ((kup σ a 0 (σ a2 0)) a2 1)) a 2 ((kup (kup σ a 0 (σ a2 0)) a 1 ((kup σ a 0 (σ a2 0)) a2 1)) a2 2)) a2 3)) a 4 ((kup (kup (kup (kup σ a 0 (σ a2 0)) a 1 ((kup σ a 0 (σ a2 0)) a2 1)) a 2 ((kup (kup σ a 0 (σ a2 0)) a 1 ((kup σ a 0 (σ a2 0)) a2 1)) a2 2)) a 3 ((kup (kup (kup σ a 0 (σ a2 0)) a 1 ((kup σ a 0 (σ a2 0)) a2 1)) a 2 ((kup (kup σ a 0 (σ a2 0)) a 1 ((kup σ a 0 (σ a2 0)) a2 1)) a2 2)) a2 3)) a2 4)) a2 5)) a 6 ((kup (kup (kup (kup (kup (kup σ a 0 (σ a2 0)) a 1 ((kup σ a 0 (σ a2 0)) a2 1)) a 2 ((kup (kup σ a 0 (σ a2 0)) a 1 ((kup σ a 0 (σ a2 0)) a2 1)) a2 2)) a 3 ((kup (kup (kup σ a 0 (σ a2 0)) a 1 ((kup σ a 0 (σ a2 0)) a2 1)) a 2 ((kup (kup σ a 0 (σ a2 0)) a 1 ((kup σ a 0 (σ a2 0)) a2 1)) a2 2)) a2 3)) a 4 ((kup (kup (kup (kup σ a 0 (σ a2 0)) a 1 ((kup σ a 0 (σ a2 0)) a2 1)) a 2 ((kup (kup σ a 0 (σ a2 0)) a 1 ((kup σ a 0 (σ a2 0)) a2 1)) a2 2)) a 3 ((kup (kup (kup σ a 0 (σ a2 0)) a 1 ((kup σ a 0 (σ a2 0)) a2 1)) a 2 ((kup (kup σ a 0 (σ a2 0)) a 1 ((kup σ a 0 (σ a2 0)) a2 1)) a2 2)) a2 3)) a2 4)) a 5 ((kup (kup (kup (kup (kup σ a 0 (σ a2 0)) a 1 ((kup σ a 0 (σ a2 0)) a2 1)) a 2 ((kup (kup σ a 0 (σ a2 0)) a 1 ((kup σ a 0 (σ a2 0)) a2 1)) a2 2)) a 3 ((kup (kup (kup σ a 0 (σ a2 0)) a 1 ((kup σ a 0 (σ a2 0)) a2 1)) a 2 ((kup (kup σ a 0 (σ a2 0)) a 1 ((kup σ a 0 (σ a2 0)) a2 1)) a2 2)) a2 3)) a 4 ((kup (kup (kup (kup σ a 0 (σ a2 0)) a 1 ((kup σ a 0 (σ a2 0)) a2 1)) a 2 ((kup (kup σ a 0 (σ a2 0)) a 1 ((kup σ a 0 (σ a2 0)) a2 1)) a2 2)) a 3 ((kup (kup (kup σ a 0 (σ a2 0)) a 1 ((kup σ a 0 (σ a2 0)) a2 1)) a 2 ((kup (kup σ a 0 (σ a2 0)) a 1 ((kup σ a 0 (σ a2 0)) a2 1)) a2 2)) a2 3)) a2 4)) a2 5)) a2 6)) a2 7)) a2 8)) a 9 ((kup (kup (kup (kup (kup (kup (kup (kup (kup σ a 0 (σ a2 0)) a 1 ((kup σ a 0 (σ a2 0)) a2 1)) a 2 ((kup (kup σ a 0 (σ a2 0)) a 1 ((kup σ a 0 (σ a2 0)) a2 1)) a2 2)) a 3 ((kup (kup (kup σ a 0 (σ a2 0)) a 1 ((kup σ a 0 (σ a2 0)) a2 1)) a 2 ((kup (kup σ a 0 (σ a2 0)) a 1 ((kup σ a 0 (σ a2 0)) a2 1)) a2 2)) a2 3)) a 4 ((kup (kup (kup (kup σ a 0 (σ a2 0)) a 1 ((kup σ a 0 (σ a2 0)) a2 1)) a 2 ((kup (kup σ a 0 (σ a2 0)) a 1 ((kup σ a 0 (σ a2 0)) a2 1)) a2 2)) a 3 ((kup (kup (kup σ a 0 (σ a2 0)) a 1 ((kup σ a 0 (σ a2 0)) a2 1)) a 2 ((kup (kup σ a 0 (σ a2 0)) a 1 ((kup σ a 0 (σ a2 0)) a2 1)) a2 2)) a2 3)) a2 4)) a 5 ((kup (kup (kup (kup (kup σ a 0 (σ a2 0)) a 1 ((kup σ a 0 (σ a2 0)) a2 1)) a 2 ((kup (kup σ a 0 (σ a2 0)) a 1 ((kup σ a 0 (σ a2 0)) a2 1)) a2 2)) a 3 ((kup (kup (kup σ a 0 (σ a2 0)) a 1 ((kup σ a 0 (σ a2 0)) a2 1)) a 2 ((kup (kup σ a 0 (σ a2 0)) a 1 ((kup σ a 0 (σ a2 0)) a2 1)) a2 2)) a2 3)) a 4 ((kup (kup (kup (kup σ a 0 (σ a2 0)) a 1 ((kup σ a 0 (σ a2 0)) a2 1)) a 2 ((kup (kup σ a 0 (σ a2 0)) a 1 ((kup σ a 0 (σ a2 0)) a2 1)) a2 2)) a 3 ((kup (kup (kup σ a 0 (σ a2 0)) a 1 ((kup σ a 0 (σ a2 0)) a2 1)) a 2 ((kup (kup σ a 0 (σ a2 0)) a 1 ((kup σ a 0 (σ a2 0)) a2 1)) a2 2)) a2 3)) a2 4)) a2 5)) a 6 ((kup (kup (kup (kup (kup (kup σ a 0 (σ a2 0)) a 1 ((kup σ a 0 (σ a2 0)) a2 1)) a 2 ((kup (kup σ a 0 (σ a2 0)) a 1 ((kup σ a 0 (σ a2 0)) a2 1)) a2 2)) a 3 ((kup (kup (kup σ a 0 (σ a2 0)) a 1 ((kup σ a 0 (σ a2 0)) a2 1)) a 2 ((kup (kup σ a 0 (σ a2 0)) a 1 ((kup σ a 0 (σ a2 0)) a2 1)) a2 2)) a2 3)) a 4 ((kup (kup (kup (kup σ a 0 (σ a2 0)) a 1 ((kup σ a 0 (σ a2 0)) a2 1)) a 2 ((kup (kup σ a 0 (σ a2 0)) a 1 ((kup σ a 0 (σ a2 0)) a2 1)) a2 2)) a 3 ((kup (kup (kup σ a 0 (σ a2 0)) a 1 ((kup σ a 0 (σ a2 0)) a2 1)) a 2 ((kup (kup σ a 0 (σ a2 0)) a 1 ((kup σ a 0 (σ a2 0)) a2 1)) a2 2)) a2 3)) a2 4)) a 5 ((kup (kup (kup (kup (kup σ a 0 (σ a2 0)) a 1 ((kup σ a 0 (σ a2 0)) a2 1)) a 2 ((kup (kup σ a 0 (σ a2 0)) a 1 ((kup σ a 0 (σ a2 0)) a2 1)) a2 2)) a 3 ((kup (kup (kup σ a 0 (σ a2 0)) a 1 ((kup σ a 0 (σ a2 0)) a2 1)) a 2 ((kup (kup σ a 0 (σ a2 0)) a 1 ((kup σ a 0 (σ a2 0)) a2 1)) a2 2)) a2 3)) a 4 ((kup (kup (kup (kup σ a 0 (σ a2 0)) a 1 ((kup σ a 0 (σ a2 0)) a2 1)) a 2 ((kup (kup σ a 0 (σ a2 0)) a 1 ((kup σ a 0 (σ a2 0)) a2 1)) a2 2)) a 3 ((kup (kup (kup σ a 0 (σ a2 0)) a 1 ((kup σ a 0 (σ a2 0)) a2 1)) a 2 ((kup (kup σ a 0 (σ a2 0)) a 1 ((kup σ a 0 (σ a2 0)) a2 1)) a2 2)) a2 3)) a2 4)) a2 5)) a2 6)) a 7 ((kup (kup (kup (kup (kup (kup (kup σ a 0 (σ a2 0)) a 1 ((kup σ a 0 (σ a2 0)) a2 1)) a 2 ((kup (kup σ a 0 (σ a2 0)) a 1 ((kup σ a 0 (σ a2 0)) a2 1)) a2 2)) a 3 ((kup (kup (kup σ a 0 (σ a2 0)) a 1 ((kup σ a 0 (σ a2 0)) a2 1)) a 2 ((kup (kup σ a 0 (σ a2 0)) a 1 ((kup σ a 0 (σ a2 0)) a2 1)) a2 2)) a2 3)) a 4 ((kup (kup (kup (kup σ a 0 (σ a2 0)) a 1 ((kup σ a 0 (σ a2 0)) a2 1)) a 2 ((kup (kup σ a 0 (σ a2 0)) a 1 ((kup σ a 0 (σ a2 0)) a2 1)) a2 2)) a 3 ((kup (kup (kup σ a 0 (σ a2 0)) a 1 ((kup σ a 0 (σ a2 0)) a2 1)) a 2 ((kup (kup σ a 0 (σ a2 0)) a 1 ((kup σ a 0 (σ a2 0)) a2 1)) a2 2)) a2 3)) a2 4)) a 5 ((kup (kup (kup (kup (kup σ a 0 (σ a2 0)) a 1 ((kup σ a 0 (σ a2 0)) a2 1)) a 2 ((kup (kup σ a 0 (σ a2 0)) a 1 ((kup σ a 0 (σ a2 0)) a2 1)) a2 2)) a 3 ((kup (kup (kup σ a 0 (σ a2 0)) a 1 ((kup σ a 0 (σ a2 0)) a2 1)) a 2 ((kup (kup σ a 0 (σ a2 0)) a 1 ((kup σ a 0 (σ a2 0)) a2 1)) a2 2)) a2 3)) a 4 ((kup (kup (kup (kup σ a 0 (σ a2 0)) a 1 ((kup σ a 0 (σ a2 0)) a2 1)) a 2 ((kup (kup σ a 0 (σ a2 0)) a 1 ((kup σ a 0 (σ a2 0)) a2 1)) a2 2)) a 3 ((kup (kup (kup σ a 0 (σ a2 0)) a 1 ((kup σ a 0 (σ a2 0)) a2 1)) a 2 ((kup (kup σ a 0 (σ a2 0)) a 1 ((kup σ a 0 (σ a2 0)) a2 1)) a2 2)) a2 3)) a2 4)) a2 5)) a 6 ((kup (kup (kup (kup (kup (kup σ a 0 (σ a2 0)) a 1 ((kup σ a 0 (σ a2 0)) a2 1)) a 2 ((kup (kup σ a 0 (σ a2 0)) a 1 ((kup σ a 0 (σ a2 0)) a2 1)) a2 2)) a 3 ((kup (kup (kup σ a 0 (σ a2 0)) a 1 ((kup σ a 0 (σ a2 0)) a2 1)) a 2 ((kup (kup σ a 0 (σ a2 0)) a 1 ((kup σ a 0 (σ a2 0)) a2 1)) a2 2)) a2 3)) a 4 ((kup (kup (kup (kup σ a 0 (σ a2 0)) a 1 ((kup σ a 0 (σ a2 0)) a2 1)) a 2 ((kup (kup σ a 0 (σ a2 0)) a 1 ((kup σ a 0 (σ a2 0)) a2 1)) a2 2)) a 3 ((kup (kup (kup σ a 0 (σ a2 0)) a 1 ((kup σ a 0 (σ a2 0)) a2 1)) a 2 ((kup (kup σ a 0 (σ a2 0)) a 1 ((kup σ a 0 (σ a2 0)) a2 1)) a2 2)) a2 3)) a2 4)) a 5 ((kup (kup (kup (kup (kup σ a 0 (σ a2 0)) a 1 ((kup σ a 0 (σ a2 0)) a2 1)) a 2 ((kup (kup σ a 0 (σ a2 0)) a 1 ((kup σ a 0 (σ a2 0)) a2 1)) a2 2)) a 3 ((kup (kup (kup σ a 0 (σ a2 0)) a 1 ((kup σ a 0 (σ a2 0)) a2 1)) a 2 ((kup (kup σ a 0 (σ a2 0)) a 1 ((kup σ a 0 (σ a2 0)) a2 1)) a2 2)) a2 3)) a 4 ((kup (kup (kup (kup σ a 0 (σ a2 0)) a 1 ((kup σ a 0 (σ a2 0)) a2 1)) a 2 ((kup (kup σ a 0 (σ a2 0)) a 1 ((kup σ a 0 (σ a2 0)) a2 1)) a2 2)) a 3 ((kup (kup (kup σ a 0 (σ a2 0)) a 1 ((kup σ a 0 (σ a2 0)) a2 1)) a 2 ((kup (kup σ a 0 (σ a2 0)) a 1 ((kup σ a 0 (σ a2 0)) a2 1)) a2 2)) a2 3)) a2 4)) a2 5)) a2 6)) a2 7)) a 8 ((kup (kup (kup (kup (kup (kup (kup (kup σ a 0 (σ a2 0)) a 1 ((kup σ a 0 (σ a2 0)) a2 1)) a 2 ((kup (kup σ a 0 (σ a2 0)) a 1 ((kup σ a 0 (σ a2 0)) a2 1)) a2 2)) a 3 ((kup (kup (kup σ a 0 (σ a2 0)) a 1 ((kup σ a 0 (σ a2 0)) a2 1)) a 2 ((kup (kup σ a 0 (σ a2 0)) a 1 ((kup σ a 0 (σ a2 0)) a2 1)) a2 2)) a2 3)) a 4 ((kup (kup (kup (kup σ a 0 (σ a2 0)) a 1 ((kup σ a 0 (σ a2 0)) a2 1)) a 2 ((kup (kup σ a 0 (σ a2 0)) a 1 ((kup σ a 0 (σ a2 0)) a2 1)) a2 2)) a 3 ((kup (kup (kup σ a 0 (σ a2 0)) a 1 ((kup σ a 0 (σ a2 0)) a2 1)) a 2 ((kup (kup σ a 0 (σ a2 0)) a 1 ((kup σ a 0 (σ a2 0)) a2 1)) a2 2)) a2 3)) a2 4)) a 5 ((kup (kup (kup (kup (kup σ a 0 (σ a2 0)) a 1 ((kup σ a 0 (σ a2 0)) a2 1)) a 2 ((kup (kup σ a 0 (σ a2 0)) a 1 ((kup σ a 0 (σ a2 0)) a2 1)) a2 2)) a 3 ((kup (kup (kup σ a 0 (σ a2 0)) a 1 ((kup σ a 0 (σ a2 0)) a2 1)) a 2 ((kup (kup σ a 0 (σ a2 0)) a 1 ((kup σ a 0 (σ a2 0)) a2 1)) a2 2)) a2 3)) a 4 ((kup (kup (kup (kup σ a 0 (σ a2 0)) a 1 ((kup σ a 0 (σ a2 0)) a2 1)) a 2 ((kup (kup σ a 0 (σ a2 0)) a 1 ((kup σ a 0 (σ a2 0)) a2 1)) a2 2)) a 3 ((kup (kup (kup σ a 0 (σ a2 0)) a 1 ((kup σ a 0 (σ a2 0)) a2 1)) a 2 ((kup (kup σ a 0 (σ a2 0)) a 1 ((kup σ a 0 (σ a2 0)) a2 1)) a2 2)) a2 3)) a2 4)) a2 5)) a 6 ((kup (kup (kup (kup (kup (kup σ a 0 (σ a2 0)) a 1 ((kup σ a 0 (σ a2 0)) a2 1)) a 2 ((kup (kup σ a 0 (σ a2 0)) a 1 ((kup σ a 0 (σ a2 0)) a2 1)) a2 2)) a 3 ((kup (kup (kup σ a 0 (σ a2 0)) a 1 ((kup σ a 0 (σ a2 0)) a2 1)) a 2 ((kup (kup σ a 0 (σ a2 0)) a 1 ((kup σ a 0 (σ a2 0)) a2 1)) a2 2)) a2 3)) a 4 ((kup (kup (kup (kup σ a 0 (σ a2 0)) a 1 ((kup σ a 0 (σ a2 0)) a2 1)) a 2 ((kup (kup σ a 0 (σ a2 0)) a 1 ((kup σ a 0 (σ a2 0)) a2 1)) a2 2)) a 3 ((kup (kup (kup σ a 0 (σ a2 0)) a 1 ((kup σ a 0 (σ a2 0)) a2 1)) a 2 ((kup (kup σ a 0 (σ a2 0)) a 1 ((kup σ a 0 (σ a2 0)) a2 1)) a2 2)) a2 3)) a2 4)) a 5 ((kup (kup (kup (kup (kup σ a 0 (σ a2 0)) a 1 ((kup σ a 0 (σ a2 0)) a2 1)) a 2 ((kup (kup σ a 0 (σ a2 0)) a 1 ((kup σ a 0 (σ a2 0)) a2 1)) a2 2)) a 3 ((kup (kup (kup σ a 0 (σ a2 0)) a 1 ((kup σ a 0 (σ a2 0)) a2 1)) a 2 ((kup (kup σ a 0 (σ a2 0)) a 1 ((kup σ a 0 (σ a2 0)) a2 1)) a2 2)) a2 3)) a 4 ((kup (kup (kup (kup σ a 0 (σ a2 0)) a 1 ((kup σ a 0 (σ a2 0)) a2 1)) a 2 ((kup (kup σ a 0 (σ a2 0)) a 1 ((kup σ a 0 (σ a2 0)) a2 1)) a2 2)) a 3 ((kup (kup (kup σ a 0 (σ a2 0)) a 1 ((kup σ a 0 (σ a2 0)) a2 1)) a 2 ((kup (kup σ a 0 (σ a2 0)) a 1 ((kup σ a 0 (σ a2 0)) a2 1)) a2 2)) a2 3)) a2 4)) a2 5)) a2 6)) a 7 ((kup (kup (kup (kup (kup (kup (kup σ a 0 (σ a2 0)) a 1 ((kup σ a 0 (σ a2 0)) a2 1)) a 2 ((kup (kup σ a 0 (σ a2 0)) a 1 ((kup σ a 0 (σ a2 0)) a2 1)) a2 2)) a 3 ((kup (kup (kup σ a 0 (σ a2 0)) a 1 ((kup σ a 0 (σ a2 0)) a2 1)) a 2 ((kup (kup σ a 0 (σ a2 0)) a 1 ((kup σ a 0 (σ a2 0)) a2 1)) a2 2)) a2 3)) a 4 ((kup (kup (kup (kup σ a 0 (σ a2 0)) a 1 ((kup σ a 0 (σ a2 0)) a2 1)) a 2 ((kup (kup σ a 0 (σ a2 0)) a 1 ((kup σ a 0 (σ a2 0)) a2 1)) a2 2)) a 3 ((kup (kup (kup σ a 0 (σ a2 0)) a 1 ((kup σ a 0 (σ a2 0)) a2 1)) a 2 ((kup (kup σ a 0 (σ a2 0)) a 1 ((kup σ a 0 (σ a2 0)) a2 1)) a2 2)) a2 3)) a2 4)) a 5 ((kup (kup (kup (kup (kup σ a 0 (σ a2 0)) a 1 ((kup σ a 0 (σ a2 0)) a2 1)) a 2 ((kup (kup σ a 0 (σ a2 0)) a 1 ((kup σ a 0 (σ a2 0)) a2 1)) a2 2)) a 3 ((kup (kup (kup σ a 0 (σ a2 0)) a 1 ((kup σ a 0 (σ a2 0)) a2 1)) a 2 ((kup (kup σ a 0 (σ a2 0)) a 1 ((kup σ a 0 (σ a2 0)) a2 1)) a2 2)) a2 3)) a 4 ((kup (kup (kup (kup σ a 0 (σ a2 0)) a 1 ((kup σ a 0 (σ a2 0)) a2 1)) a 2 ((kup (kup σ a 0 (σ a2 0)) a 1 ((kup σ a 0 (σ a2 0)) a2 1)) a2 2)) a 3 ((kup (kup (kup σ a 0 (σ a2 0)) a 1 ((kup σ a 0 (σ a2 0)) a2 1)) a 2 ((kup (kup σ a 0 (σ a2 0)) a 1 ((kup σ a 0 (σ a2 0)) a2 1)) a2 2)) a2 3)) a2 4)) a2 5)) a 6 ((kup (kup (kup (kup (kup (kup σ a 0 (σ a2 0)) a 1 ((kup σ a 0 (σ a2 0)) a2 1)) a 2 ((kup (kup σ a 0 (σ a2 0)) a 1 ((kup σ a 0 (σ a2 0)) a2 1)) a2 2)) a 3 ((kup (kup (kup σ a 0 (σ a2 0)) a 1 ((kup σ a 0 (σ a2 0)) a2 1)) a 2 ((kup (kup σ a 0 (σ a2 0)) a 1 ((kup σ a 0 (σ a2 0)) a2 1)) a2 2)) a2 3)) a 4 ((kup (kup (kup (kup σ a 0 (σ a2 0)) a 1 ((kup σ a 0 (σ a2 0)) a2 1)) a 2 ((kup (kup σ a 0 (σ a2 0)) a 1 ((kup σ a 0 (σ a2 0)) a2 1)) a2 2)) a 3 ((kup (kup (kup σ a 0 (σ a2 0)) a 1 ((kup σ a 0 (σ a2 0)) a2 1)) a 2 ((kup (kup σ a 0 (σ a2 0)) a 1 ((kup σ a 0 (σ a2 0)) a2 1)) a2 2)) a2 3)) a2 4)) a 5 ((kup (kup (kup (kup (kup σ a 0 (σ a2 0)) a 1 ((kup σ a 0 (σ a2 0)) a2 1)) a 2 ((kup (kup σ a 0 (σ a2 0)) a 1 ((kup σ a 0 (σ a2 0)) a2 1)) a2 2)) a 3 ((kup (kup (kup σ a 0 (σ a2 0)) a 1 ((kup σ a 0 (σ a2 0)) a2 1)) a 2 ((kup (kup σ a 0 (σ a2 0)) a 1 ((kup σ a 0 (σ a2 0)) a2 1)) a2 2)) a2 3)) a 4 ((kup (kup (kup (kup σ a 0 (σ a2 0)) a 1 ((kup σ a 0 (σ a2 0)) a2 1)) a 2 ((kup (kup σ a 0 (σ a2 0)) a 1 ((kup σ a 0 (σ a2 0)) a2 1)) a2 2)) a 3 ((kup (kup (kup σ a 0 (σ a2 0)) a 1 ((kup σ a 0 (σ a2 0)) a2 1)) a 2 ((kup (kup σ a 0 (σ a2 0)) a 1 ((kup σ a 0 (σ a2 0)) a2 1)) a2 2)) a2 3)) a2 4)) a2 5)) a2 6)) a2 7)) a2 8)) a2 9))) : Run G WX M_X3_copy 0 0 0 [vA G a, vA G a2] σ Q := by
  refine Run.of (by decide +kernel) (by show (2 : Nat) ≤ 2; decide) ?_
  show Ex G WX M_X3_copy 0 0 0 0 [(0, vA G a), (1, vA G a2)] [] σ Q
  refine R_aload_n e_X3_copy_0.1 0 rfl ?_
  refine R_aload_n e_X3_copy_0.2.1 1 rfl ?_
  refine R_getL 3 0 0 e_X3_copy_0.2.2.1 f_X3_9 (kLX ha2) (fun _ _ => rfl) rfl ?_
  refine R_putL 3 0 0 WX_ok e_X3_copy_0.2.2.2.1 f_X3_9 (kLX ha) rfl rfl rfl ?_
  refine R_aload_n e_X3_copy_0.2.2.2.2.1 0 rfl ?_
  refine R_aload_n e_X3_copy_0.2.2.2.2.2.1 1 rfl ?_
  refine R_getI 3 1 1 e_X3_copy_0.2.2.2.2.2.2.1 f_X3_15 (kLX ha2) (fun _ _ => rfl) rfl ?_
  refine R_putI 3 1 1 WX_ok e_X3_copy_0.2.2.2.2.2.2.2.1 f_X3_15 (kLX ha) rfl rfl rfl ?_
  refine R_aload_n e_X3_copy_0.2.2.2.2.2.2.2.2.1 0 rfl ?_
  refine R_aload_n e_X3_copy_0.2.2.2.2.2.2.2.2.2 1 rfl ?_
  refine R_getI 3 2 2 e_X3_copy_1.1 f_X3_19 (kLX ha2) (fun _ _ => rfl) rfl ?_
  refine R_putI 3 2 2 WX_ok e_X3_copy_1.2.1 f_X3_19 (kLX ha) rfl rfl rfl ?_
  refine R_aload_n e_X3_copy_1.2.2.1 0 rfl ?_
  refine R_aload_n e_X3_copy_1.2.2.2.1 1 rfl ?_
  refine R_getI 3 3 3 e_X3_copy_1.2.2.2.2.1 f_X3_22 (kLX ha2) (fun _ _ => rfl) rfl ?_
  refine R_putI 3 3 3 WX_ok e_X3_copy_1.2.2.2.2.2.1 f_X3_22 (kLX ha) rfl rfl rfl ?_
  refine R_aload_n e_X3_copy_1.2.2.2.2.2.2.1 0 rfl ?_
  refine R_aload_n e_X3_copy_1.2.2.2.2.2.2.2.1 1 rfl ?_
  refine R_getI 3 4 4 e_X3_copy_1.2.2.2.2.2.2.2.2.1 f_X3_25 (kLX ha2) (fun _ _ => rfl) rfl ?_
  refine R_putI 3 4 4 WX_ok e_X3_copy_1.2.2.2.2.2.2.2.2.2 f_X3_25 (kLX ha) rfl rfl rfl ?_
  refine R_aload_n e_X3_copy_2.1 0 rfl ?_
  refine R_aload_n e_X3_copy_2.2.1 1 rfl ?_
  refine R_getI 3 5 5 e_X3_copy_2.2.2.1 f_X3_28 (kLX ha2) (fun _ _ => rfl) rfl ?_
  refine R_putI 3 5 5 WX_ok e_X3_copy_2.2.2.2.1 f_X3_28 (kLX ha) rfl rfl rfl ?_
  refine R_aload_n e_X3_copy_2.2.2.2.2.1 0 rfl ?_
  refine R_aload_n e_X3_copy_2.2.2.2.2.2.1 1 rfl ?_
  refine R_getI 3 6 6 e_X3_copy_2.2.2.2.2.2.2.1 f_X3_31 (kLX ha2) (fun _ _ => rfl) rfl ?_
  refine R_putI 3 6 6 WX_ok e_X3_copy_2.2.2.2.2.2.2.2.1 f_X3_31 (kLX ha) rfl rfl rfl ?_
  refine R_aload_n e_X3_copy_2.2.2.2.2.2.2.2.2.1 0 rfl ?_
  refine R_aload_n e_X3_copy_2.2.2.2.2.2.2.2.2.2 1 rfl ?_
  refine R_getI 3 7 7 e_X3_copy_3.1 f_X3_34 (kLX ha2) (fun _ _ => rfl) rfl ?_
  refine R_putI 3 7 7 WX_ok e_X3_copy_3.2.1 f_X3_34 (kLX ha) rfl rfl rfl ?_
  refine R_aload_n e_X3_copy_3.2.2.1 0 rfl ?_
  refine R_aload_n e_X3_copy_3.2.2.2.1 1 rfl ?_
  refine R_getI 3 8 8 e_X3_copy_3.2.2.2.2.1 f_X3_37 (kLX ha2) (fun _ _ => rfl) rfl ?_
  refine R_putI 3 8 8 WX_ok e_X3_copy_3.2.2.2.2.2.1 f_X3_37 (kLX ha) rfl rfl rfl ?_
  refine R_aload_n e_X3_copy_3.2.2.2.2.2.2.1 0 rfl ?_
  refine R_aload_n e_X3_copy_3.2.2.2.2.2.2.2.1 1 rfl ?_
  refine R_getI 3 9 9 e_X3_copy_3.2.2.2.2.2.2.2.2.1 f_X3_40 (kLX ha2) (fun _ _ => rfl) rfl ?_
  obtain ⟨q1, h⟩ := h
  refine R_putZ 3 9 9 WX_ok e_X3_copy_3.2.2.2.2.2.2.2.2.2 f_X3_40 (kLX ha) rfl rfl rfl q1 ?_
  exact R_return e_X3_copy_4 rfl h
/-! KiteLand$Kite.earn(I)V -/
theorem e_X3_earn_0 : decode cX3_earn 0 = .ok (.aload_n 0, 1) ∧ decode cX3_earn 1 = .ok (.sipush 9999, 3) ∧ decode cX3_earn 4 = .ok (.aload_n 0, 1) ∧ decode cX3_earn 5 = .ok (.getfield 34, 3) ∧ decode cX3_earn 8 = .ok (.iload_n 1, 1) ∧ decode cX3_earn 9 = .ok (.iadd, 1) ∧ decode cX3_earn 10 = .ok (.invokestatic 44, 3) ∧ decode cX3_earn 13 = .ok (.putfield 34, 3) ∧ decode cX3_earn 16 = .ok (.return_, 1) := by decide +kernel
theorem S_X3_earn {G : Kg} {σ : Kmem} {Q : Int → Kmem → Prop} {a l1 : Int} (ha : kIsX a 3) (h : Run G WX M_J9_min_7cf53 0 0 0 [vI 9999, vI ((σ a 7) + l1)] σ (fun r1 s2 => Q 0 (kup s2 a 7 r1))) : Run G WX M_X3_earn 1 0 0 [vA G a, vI l1] σ Q := by
  refine Run.of (by decide +kernel) (by show (2 : Nat) ≤ 2; decide) ?_
  show Ex G WX M_X3_earn 1 0 0 0 [(0, vA G a), (1, vI l1)] [] σ Q
  refine R_aload_n e_X3_earn_0.1 0 rfl ?_
  refine R_sipush e_X3_earn_0.2.1 (by decide) ?_
  refine R_aload_n e_X3_earn_0.2.2.1 0 rfl ?_
  refine R_getI 3 7 7 e_X3_earn_0.2.2.2.1 f_X3_34 (kLX ha) (fun _ _ => rfl) rfl ?_
  refine R_iload_n e_X3_earn_0.2.2.2.2.1 1 rfl ?_
  refine R_iadd e_X3_earn_0.2.2.2.2.2.1 ?_
  refine R_callS (mc := 0) (ms := 0) (mc' := 0) (ms' := 0) (M' := M_J9_min_7cf53) (d' := 0) (as := [vI 9999, vI ((σ a 7) + l1)]) (st := [vA G a]) 2 e_X3_earn_0.2.2.2.2.2.2.1 (kCSof m_J9_min_7cf53 l_X3_44) (by decide) (by decide) rfl rfl (by show (1 : Nat) ≤ 8; decide) ?_
  refine Run.mono h (fun r1 s2 h => ?_)
  refine R_eqs (st2 := [vI r1, vA G a]) rfl rfl ?_
  refine R_putI 3 7 7 WX_ok e_X3_earn_0.2.2.2.2.2.2.2.1 f_X3_34 (kLX ha) rfl rfl rfl ?_
  exact R_return e_X3_earn_0.2.2.2.2.2.2.2.2 rfl h
/-! KiteLand$Tenant.begin(JIII)V -/
theorem e_X9_begin_0 : decode cX9_begin 0 = .ok (.aload_n 0, 1) ∧ decode cX9_begin 1 = .ok (.lload_n 1, 1) ∧ decode cX9_begin 2 = .ok (.putfield 7, 3) ∧ decode cX9_begin 5 = .ok (.aload_n 0, 1) ∧ decode cX9_begin 6 = .ok (.iload_n 3, 1) ∧ decode cX9_begin 7 = .ok (.putfield 13, 3) ∧ decode cX9_begin 10 = .ok (.aload_n 0, 1) ∧ decode cX9_begin 11 = .ok (.iload 4, 2) ∧ decode cX9_begin 13 = .ok (.putfield 17, 3) ∧ decode cX9_begin 16 = .ok (.aload_n 0, 1) := by decide +kernel
theorem e_X9_begin_1 : decode cX9_begin 17 = .ok (.iload 5, 2) ∧ decode cX9_begin 19 = .ok (.putfield 20, 3) ∧ decode cX9_begin 22 = .ok (.aload_n 0, 1) ∧ decode cX9_begin 23 = .ok (.iconst 0, 1) ∧ decode cX9_begin 24 = .ok (.putfield 23, 3) ∧ decode cX9_begin 27 = .ok (.aload_n 0, 1) ∧ decode cX9_begin 28 = .ok (.iconst 0, 1) ∧ decode cX9_begin 29 = .ok (.putfield 26, 3) ∧ decode cX9_begin 32 = .ok (.return_, 1) := by decide +kernel
theorem S_X9_begin {G : Kg} {σ : Kmem} {Q : Int → Kmem → Prop} {a l1 l3 l4 l5 : Int} (ha : kIsX a 9) (h : Q 0 (kup (kup (kup (kup (kup (kup σ a 0 l1) a 1 l3) a 2 l4) a 3 l5) a 4 0) a 5 0)) : Run G WX M_X9_begin 0 0 0 [vA G a, vL l1, vI l3, vI l4, vI l5] σ Q := by
  refine Run.of (by decide +kernel) (by show (6 : Nat) ≤ 6; decide) ?_
  show Ex G WX M_X9_begin 0 0 0 0 [(0, vA G a), (1, vL l1), (3, vI l3), (4, vI l4), (5, vI l5)] [] σ Q
  refine R_aload_n e_X9_begin_0.1 0 rfl ?_
  refine R_lload_n e_X9_begin_0.2.1 1 rfl ?_
  refine R_putL 9 0 0 WX_ok e_X9_begin_0.2.2.1 f_X9_7 (kLX ha) rfl rfl rfl ?_
  refine R_aload_n e_X9_begin_0.2.2.2.1 0 rfl ?_
  refine R_iload_n e_X9_begin_0.2.2.2.2.1 2 rfl ?_
  refine R_putI 9 1 1 WX_ok e_X9_begin_0.2.2.2.2.2.1 f_X9_13 (kLX ha) rfl rfl rfl ?_
  refine R_aload_n e_X9_begin_0.2.2.2.2.2.2.1 0 rfl ?_
  refine R_iload e_X9_begin_0.2.2.2.2.2.2.2.1 3 rfl ?_
  refine R_putI 9 2 2 WX_ok e_X9_begin_0.2.2.2.2.2.2.2.2.1 f_X9_17 (kLX ha) rfl rfl rfl ?_
  refine R_aload_n e_X9_begin_0.2.2.2.2.2.2.2.2.2 0 rfl ?_
  refine R_iload e_X9_begin_1.1 4 rfl ?_
  refine R_putI 9 3 3 WX_ok e_X9_begin_1.2.1 f_X9_20 (kLX ha) rfl rfl rfl ?_
  refine R_aload_n e_X9_begin_1.2.2.1 0 rfl ?_
  refine R_iconst e_X9_begin_1.2.2.2.1 ?_
  refine R_putI 9 4 4 WX_ok e_X9_begin_1.2.2.2.2.1 f_X9_23 (kLX ha) rfl rfl rfl ?_
  refine R_aload_n e_X9_begin_1.2.2.2.2.2.1 0 rfl ?_
  refine R_iconst e_X9_begin_1.2.2.2.2.2.2.1 ?_
  refine R_putI 9 5 5 WX_ok e_X9_begin_1.2.2.2.2.2.2.2.1 f_X9_26 (kLX ha) rfl rfl rfl ?_
  exact R_return e_X9_begin_1.2.2.2.2.2.2.2.2 rfl h
/-! KiteLand$Tenant.copy(LKiteLand$Tenant;)V -/
theorem e_X9_copy_0 : decode cX9_copy 0 = .ok (.aload_n 0, 1) ∧ decode cX9_copy 1 = .ok (.aload_n 1, 1) ∧ decode cX9_copy 2 = .ok (.getfield 7, 3) ∧ decode cX9_copy 5 = .ok (.putfield 7, 3) ∧ decode cX9_copy 8 = .ok (.aload_n 0, 1) ∧ decode cX9_copy 9 = .ok (.aload_n 1, 1) ∧ decode cX9_copy 10 = .ok (.getfield 13, 3) ∧ decode cX9_copy 13 = .ok (.putfield 13, 3) ∧ decode cX9_copy 16 = .ok (.aload_n 0, 1) ∧ decode cX9_copy 17 = .ok (.aload_n 1, 1) := by decide +kernel
theorem e_X9_copy_1 : decode cX9_copy 18 = .ok (.getfield 17, 3) ∧ decode cX9_copy 21 = .ok (.putfield 17, 3) ∧ decode cX9_copy 24 = .ok (.aload_n 0, 1) ∧ decode cX9_copy 25 = .ok (.aload_n 1, 1) ∧ decode cX9_copy 26 = .ok (.getfield 20, 3) ∧ decode cX9_copy 29 = .ok (.putfield 20, 3) ∧ decode cX9_copy 32 = .ok (.aload_n 0, 1) ∧ decode cX9_copy 33 = .ok (.aload_n 1, 1) ∧ decode cX9_copy 34 = .ok (.getfield 23, 3) ∧ decode cX9_copy 37 = .ok (.putfield 23, 3) := by decide +kernel
theorem e_X9_copy_2 : decode cX9_copy 40 = .ok (.aload_n 0, 1) ∧ decode cX9_copy 41 = .ok (.aload_n 1, 1) ∧ decode cX9_copy 42 = .ok (.getfield 26, 3) ∧ decode cX9_copy 45 = .ok (.putfield 26, 3) ∧ decode cX9_copy 48 = .ok (.return_, 1) := by decide +kernel
theorem S_X9_copy {G : Kg} {σ : Kmem} {Q : Int → Kmem → Prop} {a a2 : Int} (ha : kIsX a 9) (ha2 : kIsX a2 9) (h : Q 0 (kup (kup (kup (kup (kup (kup σ a 0 (σ a2 0)) a 1 ((kup σ a 0 (σ a2 0)) a2 1)) a 2 ((kup (kup σ a 0 (σ a2 0)) a 1 ((kup σ a 0 (σ a2 0)) a2 1)) a2 2)) a 3 ((kup (kup (kup σ a 0 (σ a2 0)) a 1 ((kup σ a 0 (σ a2 0)) a2 1)) a 2 ((kup (kup σ a 0 (σ a2 0)) a 1 ((kup σ a 0 (σ a2 0)) a2 1)) a2 2)) a2 3)) a 4 ((kup (kup (kup (kup σ a 0 (σ a2 0)) a 1 ((kup σ a 0 (σ a2 0)) a2 1)) a 2 ((kup (kup σ a 0 (σ a2 0)) a 1 ((kup σ a 0 (σ a2 0)) a2 1)) a2 2)) a 3 ((kup (kup (kup σ a 0 (σ a2 0)) a 1 ((kup σ a 0 (σ a2 0)) a2 1)) a 2 ((kup (kup σ a 0 (σ a2 0)) a 1 ((kup σ a 0 (σ a2 0)) a2 1)) a2 2)) a2 3)) a2 4)) a 5 ((kup (kup (kup (kup (kup σ a 0 (σ a2 0)) a 1 ((kup σ a 0 (σ a2 0)) a2 1)) a 2 ((kup (kup σ a 0 (σ a2 0)) a 1 ((kup σ a 0 (σ a2 0)) a2 1)) a2 2)) a 3 ((kup (kup (kup σ a 0 (σ a2 0)) a 1 ((kup σ a 0 (σ a2 0)) a2 1)) a 2 ((kup (kup σ a 0 (σ a2 0)) a 1 ((kup σ a 0 (σ a2 0)) a2 1)) a2 2)) a2 3)) a 4 ((kup (kup (kup (kup σ a 0 (σ a2 0)) a 1 ((kup σ a 0 (σ a2 0)) a2 1)) a 2 ((kup (kup σ a 0 (σ a2 0)) a 1 ((kup σ a 0 (σ a2 0)) a2 1)) a2 2)) a 3 ((kup (kup (kup σ a 0 (σ a2 0)) a 1 ((kup σ a 0 (σ a2 0)) a2 1)) a 2 ((kup (kup σ a 0 (σ a2 0)) a 1 ((kup σ a 0 (σ a2 0)) a2 1)) a2 2)) a2 3)) a2 4)) a2 5))) : Run G WX M_X9_copy 0 0 0 [vA G a, vA G a2] σ Q := by
  refine Run.of (by decide +kernel) (by show (2 : Nat) ≤ 2; decide) ?_
  show Ex G WX M_X9_copy 0 0 0 0 [(0, vA G a), (1, vA G a2)] [] σ Q
  refine R_aload_n e_X9_copy_0.1 0 rfl ?_
  refine R_aload_n e_X9_copy_0.2.1 1 rfl ?_
  refine R_getL 9 0 0 e_X9_copy_0.2.2.1 f_X9_7 (kLX ha2) (fun _ _ => rfl) rfl ?_
  refine R_putL 9 0 0 WX_ok e_X9_copy_0.2.2.2.1 f_X9_7 (kLX ha) rfl rfl rfl ?_
  refine R_aload_n e_X9_copy_0.2.2.2.2.1 0 rfl ?_
  refine R_aload_n e_X9_copy_0.2.2.2.2.2.1 1 rfl ?_
  refine R_getI 9 1 1 e_X9_copy_0.2.2.2.2.2.2.1 f_X9_13 (kLX ha2) (fun _ _ => rfl) rfl ?_
  refine R_putI 9 1 1 WX_ok e_X9_copy_0.2.2.2.2.2.2.2.1 f_X9_13 (kLX ha) rfl rfl rfl ?_
  refine R_aload_n e_X9_copy_0.2.2.2.2.2.2.2.2.1 0 rfl ?_
  refine R_aload_n e_X9_copy_0.2.2.2.2.2.2.2.2.2 1 rfl ?_
  refine R_getI 9 2 2 e_X9_copy_1.1 f_X9_17 (kLX ha2) (fun _ _ => rfl) rfl ?_
  refine R_putI 9 2 2 WX_ok e_X9_copy_1.2.1 f_X9_17 (kLX ha) rfl rfl rfl ?_
  refine R_aload_n e_X9_copy_1.2.2.1 0 rfl ?_
  refine R_aload_n e_X9_copy_1.2.2.2.1 1 rfl ?_
  refine R_getI 9 3 3 e_X9_copy_1.2.2.2.2.1 f_X9_20 (kLX ha2) (fun _ _ => rfl) rfl ?_
  refine R_putI 9 3 3 WX_ok e_X9_copy_1.2.2.2.2.2.1 f_X9_20 (kLX ha) rfl rfl rfl ?_
  refine R_aload_n e_X9_copy_1.2.2.2.2.2.2.1 0 rfl ?_
  refine R_aload_n e_X9_copy_1.2.2.2.2.2.2.2.1 1 rfl ?_
  refine R_getI 9 4 4 e_X9_copy_1.2.2.2.2.2.2.2.2.1 f_X9_23 (kLX ha2) (fun _ _ => rfl) rfl ?_
  refine R_putI 9 4 4 WX_ok e_X9_copy_1.2.2.2.2.2.2.2.2.2 f_X9_23 (kLX ha) rfl rfl rfl ?_
  refine R_aload_n e_X9_copy_2.1 0 rfl ?_
  refine R_aload_n e_X9_copy_2.2.1 1 rfl ?_
  refine R_getI 9 5 5 e_X9_copy_2.2.2.1 f_X9_26 (kLX ha2) (fun _ _ => rfl) rfl ?_
  refine R_putI 9 5 5 WX_ok e_X9_copy_2.2.2.2.1 f_X9_26 (kLX ha) rfl rfl rfl ?_
  exact R_return e_X9_copy_2.2.2.2.2 rfl h
/-! KiteLand$Tenant.stepsTo(II)I -/
theorem e_X9_stepsTo_0 : decode cX9_stepsTo 0 = .ok (.iload_n 1, 1) ∧ decode cX9_stepsTo 1 = .ok (.aload_n 0, 1) ∧ decode cX9_stepsTo 2 = .ok (.getfield 13, 3) ∧ decode cX9_stepsTo 5 = .ok (.isub, 1) ∧ decode cX9_stepsTo 6 = .ok (.invokestatic 29, 3) ∧ decode cX9_stepsTo 9 = .ok (.iload_n 2, 1) ∧ decode cX9_stepsTo 10 = .ok (.aload_n 0, 1) ∧ decode cX9_stepsTo 11 = .ok (.getfield 17, 3) ∧ decode cX9_stepsTo 14 = .ok (.isub, 1) ∧ decode cX9_stepsTo 15 = .ok (.invokestatic 29, 3) := by decide +kernel
theorem e_X9_stepsTo_1 : decode cX9_stepsTo 18 = .ok (.iadd, 1) ∧ decode cX9_stepsTo 19 = .ok (.ireturn, 1) := by decide +kernel
theorem S_X9_stepsTo {G : Kg} {σ : Kmem} {Q : Int → Kmem → Prop} {a l1 l2 : Int} (ha : kIsX a 9) (h : Run G WX M_J9_abs_0f7a4 0 0 0 [vI (l1 - (σ a 1))] σ (fun r1 s2 => Run G WX M_J9_abs_0f7a4 0 0 0 [vI (l2 - (s2 a 2))] s2 (fun r3 s4 => Q (r1 + r3) s4))) : Run G WX M_X9_stepsTo 1 0 0 [vA G a, vI l1, vI l2] σ Q := by
  refine Run.of (by decide +kernel) (by show (3 : Nat) ≤ 3; decide) ?_
  show Ex G WX M_X9_stepsTo 1 0 0 0 [(0, vA G a), (1, vI l1), (2, vI l2)] [] σ Q
  refine R_iload_n e_X9_stepsTo_0.1 1 rfl ?_
  refine R_aload_n e_X9_stepsTo_0.2.1 0 rfl ?_
  refine R_getI 9 1 1 e_X9_stepsTo_0.2.2.1 f_X9_13 (kLX ha) (fun _ _ => rfl) rfl ?_
  refine R_isub e_X9_stepsTo_0.2.2.2.1 ?_
  refine R_callS (mc := 0) (ms := 0) (mc' := 0) (ms' := 0) (M' := M_J9_abs_0f7a4) (d' := 0) (as := [vI (l1 - (σ a 1))]) (st := []) 1 e_X9_stepsTo_0.2.2.2.2.1 (kCSof m_J9_abs_0f7a4 l_X9_29) (by decide) (by decide) rfl rfl (by show (0 : Nat) ≤ 8; decide) ?_
  refine Run.mono h (fun r1 s2 h => ?_)
  refine R_eqs (st2 := [vI r1]) rfl rfl ?_
  refine R_iload_n e_X9_stepsTo_0.2.2.2.2.2.1 2 rfl ?_
  refine R_aload_n e_X9_stepsTo_0.2.2.2.2.2.2.1 0 rfl ?_
  refine R_getI 9 2 2 e_X9_stepsTo_0.2.2.2.2.2.2.2.1 f_X9_17 (kLX ha) (fun _ _ => rfl) rfl ?_
  refine R_isub e_X9_stepsTo_0.2.2.2.2.2.2.2.2.1 ?_
  refine R_callS (mc := 0) (ms := 0) (mc' := 0) (ms' := 0) (M' := M_J9_abs_0f7a4) (d' := 0) (as := [vI (l2 - (s2 a 2))]) (st := [vI r1]) 1 e_X9_stepsTo_0.2.2.2.2.2.2.2.2.2 (kCSof m_J9_abs_0f7a4 l_X9_29) (by decide) (by decide) rfl rfl (by show (1 : Nat) ≤ 8; decide) ?_
  refine Run.mono h (fun r3 s4 h => ?_)
  refine R_eqs (st2 := [vI r3, vI r1]) rfl rfl ?_
  refine R_iadd e_X9_stepsTo_1.1 ?_
  exact R_ireturn e_X9_stepsTo_1.2 rfl h
/-! KiteLand$Tenant.stepTowards(II)V -/
theorem e_X9_stepTowards_0 : decode cX9_stepTowards 0 = .ok (.iload_n 1, 1) ∧ decode cX9_stepTowards 1 = .ok (.aload_n 0, 1) ∧ decode cX9_stepTowards 2 = .ok (.getfield 13, 3) ∧ decode cX9_stepTowards 5 = .ok (.if_icmp .eq 28, 3) ∧ decode cX9_stepTowards 8 = .ok (.aload_n 0, 1) ∧ decode cX9_stepTowards 9 = .ok (.dup, 1) ∧ decode cX9_stepTowards 10 = .ok (.getfield 13, 3) ∧ decode cX9_stepTowards 13 = .ok (.iload_n 1, 1) ∧ decode cX9_stepTowards 14 = .ok (.aload_n 0, 1) ∧ decode cX9_stepTowards 15 = .ok (.getfield 13, 3) := by decide +kernel
theorem e_X9_stepTowards_1 : decode cX9_stepTowards 18 = .ok (.if_icmp .le 7, 3) ∧ decode cX9_stepTowards 21 = .ok (.iconst 1, 1) ∧ decode cX9_stepTowards 22 = .ok (.goto 4, 3) ∧ decode cX9_stepTowards 25 = .ok (.iconst (-1), 1) ∧ decode cX9_stepTowards 26 = .ok (.iadd, 1) ∧ decode cX9_stepTowards 27 = .ok (.putfield 13, 3) ∧ decode cX9_stepTowards 30 = .ok (.goto 33, 3) ∧ decode cX9_stepTowards 33 = .ok (.iload_n 2, 1) ∧ decode cX9_stepTowards 34 = .ok (.aload_n 0, 1) ∧ decode cX9_stepTowards 35 = .ok (.getfield 17, 3) := by decide +kernel
theorem e_X9_stepTowards_2 : decode cX9_stepTowards 38 = .ok (.if_icmp .eq 25, 3) ∧ decode cX9_stepTowards 41 = .ok (.aload_n 0, 1) ∧ decode cX9_stepTowards 42 = .ok (.dup, 1) ∧ decode cX9_stepTowards 43 = .ok (.getfield 17, 3) ∧ decode cX9_stepTowards 46 = .ok (.iload_n 2, 1) ∧ decode cX9_stepTowards 47 = .ok (.aload_n 0, 1) ∧ decode cX9_stepTowards 48 = .ok (.getfield 17, 3) ∧ decode cX9_stepTowards 51 = .ok (.if_icmp .le 7, 3) ∧ decode cX9_stepTowards 54 = .ok (.iconst 1, 1) ∧ decode cX9_stepTowards 55 = .ok (.goto 4, 3) := by decide +kernel
theorem e_X9_stepTowards_3 : decode cX9_stepTowards 58 = .ok (.iconst (-1), 1) ∧ decode cX9_stepTowards 59 = .ok (.iadd, 1) ∧ decode cX9_stepTowards 60 = .ok (.putfield 17, 3) ∧ decode cX9_stepTowards 63 = .ok (.return_, 1) := by decide +kernel
theorem S_X9_stepTowards {G : Kg} {σ : Kmem} {Q : Int → Kmem → Prop} {a l1 l2 : Int} (ha : kIsX a 9) (h : (rI l1) ∧ (rI (σ a 1)) ∧ ((l1 = σ a 1 → (rI l2) ∧ (rI (σ a 2)) ∧ ((l2 = σ a 2 → Q 0 σ) ∧ (l2 ≠ σ a 2 → ((l2 ≤ σ a 2 → Q 0 (kup σ a 2 ((σ a 2) + (-1)))) ∧ (σ a 2 < l2 → Q 0 (kup σ a 2 ((σ a 2) + 1))))))) ∧ (l1 ≠ σ a 1 → ((l1 ≤ σ a 1 → Q 0 (kup σ a 1 ((σ a 1) + (-1)))) ∧ (σ a 1 < l1 → Q 0 (kup σ a 1 ((σ a 1) + 1))))))) : Run G WX M_X9_stepTowards 0 0 0 [vA G a, vI l1, vI l2] σ Q := by
  refine Run.of (by decide +kernel) (by show (3 : Nat) ≤ 3; decide) ?_
  show Ex G WX M_X9_stepTowards 0 0 0 0 [(0, vA G a), (1, vI l1), (2, vI l2)] [] σ Q
  refine R_iload_n e_X9_stepTowards_0.1 1 rfl ?_
  refine R_aload_n e_X9_stepTowards_0.2.1 0 rfl ?_
  refine R_getI 9 1 1 e_X9_stepTowards_0.2.2.1 f_X9_13 (kLX ha) (fun _ _ => rfl) rfl ?_
  obtain ⟨q1, h⟩ := h
  obtain ⟨q2, h⟩ := h
  refine R_icmp_eq 33 e_X9_stepTowards_0.2.2.2.1 (by decide) q1 q2 (fun q => ?_) (fun q => ?_)
  · replace h := h.1 q
    refine R_iload_n e_X9_stepTowards_1.2.2.2.2.2.2.2.1 2 rfl ?_
    refine R_aload_n e_X9_stepTowards_1.2.2.2.2.2.2.2.2.1 0 rfl ?_
    refine R_getI 9 2 2 e_X9_stepTowards_1.2.2.2.2.2.2.2.2.2 f_X9_17 (kLX ha) (fun _ _ => rfl) rfl ?_
    obtain ⟨q3, h⟩ := h
    obtain ⟨q4, h⟩ := h
    refine R_icmp_eq 63 e_X9_stepTowards_2.1 (by decide) q3 q4 (fun q => ?_) (fun q => ?_)
    · replace h := h.1 q
      exact R_return e_X9_stepTowards_3.2.2.2 rfl h
    · replace h := h.2 q
      refine R_aload_n e_X9_stepTowards_2.2.1 0 rfl ?_
      refine R_dup e_X9_stepTowards_2.2.2.1 rfl ?_
      refine R_getI 9 2 2 e_X9_stepTowards_2.2.2.2.1 f_X9_17 (kLX ha) (fun _ _ => rfl) rfl ?_
      refine R_iload_n e_X9_stepTowards_2.2.2.2.2.1 2 rfl ?_
      refine R_aload_n e_X9_stepTowards_2.2.2.2.2.2.1 0 rfl ?_
      refine R_getI 9 2 2 e_X9_stepTowards_2.2.2.2.2.2.2.1 f_X9_17 (kLX ha) (fun _ _ => rfl) rfl ?_
      refine R_icmp_le 58 e_X9_stepTowards_2.2.2.2.2.2.2.2.1 (by decide) q3 q4 (fun q => ?_) (fun q => ?_)
      · replace h := h.1 q
        refine R_iconst e_X9_stepTowards_3.1 ?_
        refine R_iadd e_X9_stepTowards_3.2.1 ?_
        refine R_putI 9 2 2 WX_ok e_X9_stepTowards_3.2.2.1 f_X9_17 (kLX ha) rfl rfl rfl ?_
        exact R_return e_X9_stepTowards_3.2.2.2 rfl h
      · replace h := h.2 q
        refine R_iconst e_X9_stepTowards_2.2.2.2.2.2.2.2.2.1 ?_
        refine R_goto 59 e_X9_stepTowards_2.2.2.2.2.2.2.2.2.2 (by decide) ?_
        refine R_iadd e_X9_stepTowards_3.2.1 ?_
        refine R_putI 9 2 2 WX_ok e_X9_stepTowards_3.2.2.1 f_X9_17 (kLX ha) rfl rfl rfl ?_
        exact R_return e_X9_stepTowards_3.2.2.2 rfl h
  · replace h := h.2 q
    refine R_aload_n e_X9_stepTowards_0.2.2.2.2.1 0 rfl ?_
    refine R_dup e_X9_stepTowards_0.2.2.2.2.2.1 rfl ?_
    refine R_getI 9 1 1 e_X9_stepTowards_0.2.2.2.2.2.2.1 f_X9_13 (kLX ha) (fun _ _ => rfl) rfl ?_
    refine R_iload_n e_X9_stepTowards_0.2.2.2.2.2.2.2.1 1 rfl ?_
    refine R_aload_n e_X9_stepTowards_0.2.2.2.2.2.2.2.2.1 0 rfl ?_
    refine R_getI 9 1 1 e_X9_stepTowards_0.2.2.2.2.2.2.2.2.2 f_X9_13 (kLX ha) (fun _ _ => rfl) rfl ?_
    refine R_icmp_le 25 e_X9_stepTowards_1.1 (by decide) q1 q2 (fun q => ?_) (fun q => ?_)
    · replace h := h.1 q
      refine R_iconst e_X9_stepTowards_1.2.2.2.1 ?_
      refine R_iadd e_X9_stepTowards_1.2.2.2.2.1 ?_
      refine R_putI 9 1 1 WX_ok e_X9_stepTowards_1.2.2.2.2.2.1 f_X9_13 (kLX ha) rfl rfl rfl ?_
      refine R_goto 63 e_X9_stepTowards_1.2.2.2.2.2.2.1 (by decide) ?_
      exact R_return e_X9_stepTowards_3.2.2.2 rfl h
    · replace h := h.2 q
      refine R_iconst e_X9_stepTowards_1.2.1 ?_
      refine R_goto 26 e_X9_stepTowards_1.2.2.1 (by decide) ?_
      refine R_iadd e_X9_stepTowards_1.2.2.2.2.1 ?_
      refine R_putI 9 1 1 WX_ok e_X9_stepTowards_1.2.2.2.2.2.1 f_X9_13 (kLX ha) rfl rfl rfl ?_
      refine R_goto 63 e_X9_stepTowards_1.2.2.2.2.2.2.1 (by decide) ?_
      exact R_return e_X9_stepTowards_3.2.2.2 rfl h
/-! KiteLand$Tray.make(II)V -/
theorem e_X10_make_0 : decode cX10_make 0 = .ok (.aload_n 0, 1) ∧ decode cX10_make 1 = .ok (.iconst 1, 1) ∧ decode cX10_make 2 = .ok (.putfield 9, 3) ∧ decode cX10_make 5 = .ok (.aload_n 0, 1) ∧ decode cX10_make 6 = .ok (.iload_n 1, 1) ∧ decode cX10_make 7 = .ok (.putfield 15, 3) ∧ decode cX10_make 10 = .ok (.aload_n 0, 1) ∧ decode cX10_make 11 = .ok (.iload_n 2, 1) ∧ decode cX10_make 12 = .ok (.putfield 19, 3) ∧ decode cX10_make 15 = .ok (.iconst 0, 1) := by decide +kernel
theorem e_X10_make_1 : decode cX10_make 16 = .ok (.istore_n 3, 1) ∧ decode cX10_make 17 = .ok (.iload_n 3, 1) ∧ decode cX10_make 18 = .ok (.bipush 60, 2) ∧ decode cX10_make 20 = .ok (.if_icmp .ge 16, 3) ∧ decode cX10_make 23 = .ok (.aload_n 0, 1) ∧ decode cX10_make 24 = .ok (.getfield 22, 3) ∧ decode cX10_make 27 = .ok (.iload_n 3, 1) ∧ decode cX10_make 28 = .ok (.lconst 0, 1) ∧ decode cX10_make 29 = .ok (.lastore, 1) ∧ decode cX10_make 30 = .ok (.iinc 3 1, 3) := by decide +kernel
theorem e_X10_make_2 : decode cX10_make 33 = .ok (.goto (-16), 3) ∧ decode cX10_make 36 = .ok (.return_, 1) := by decide +kernel
abbrev E_X10_make_17 (G : Kg) (t l3 : Int) (σ : Kmem) (Q : Int → Kmem → Prop) : Prop := Ex G WX M_X10_make 0 0 0 17 [(0, vA G t), (3, vI l3)] [] σ Q
theorem S_X10_make {G : Kg} {σ : Kmem} {Q : Int → Kmem → Prop} {t l1 l2 : Int} (ht : isT t) (h : E_X10_make_17 G t 0 (kup (kup (kup σ t 0 1) t 1 l1) t 2 l2) Q) : Run G WX M_X10_make 0 0 0 [vA G t, vI l1, vI l2] σ Q := by
  refine Run.of (by decide +kernel) (by show (3 : Nat) ≤ 4; decide) ?_
  show Ex G WX M_X10_make 0 0 0 0 [(0, vA G t), (1, vI l1), (2, vI l2)] [] σ Q
  refine R_aload_n e_X10_make_0.1 0 rfl ?_
  refine R_iconst e_X10_make_0.2.1 ?_
  refine R_putZ 10 0 0 WX_ok e_X10_make_0.2.2.1 f_X10_9 (kT_self ht) rfl rfl rfl (Or.inr rfl) ?_
  refine R_aload_n e_X10_make_0.2.2.2.1 0 rfl ?_
  refine R_iload_n e_X10_make_0.2.2.2.2.1 1 rfl ?_
  refine R_putI 10 1 1 WX_ok e_X10_make_0.2.2.2.2.2.1 f_X10_15 (kT_self ht) rfl rfl rfl ?_
  refine R_aload_n e_X10_make_0.2.2.2.2.2.2.1 0 rfl ?_
  refine R_iload_n e_X10_make_0.2.2.2.2.2.2.2.1 2 rfl ?_
  refine R_putI 10 2 2 WX_ok e_X10_make_0.2.2.2.2.2.2.2.2.1 f_X10_19 (kT_self ht) rfl rfl rfl ?_
  refine R_iconst e_X10_make_0.2.2.2.2.2.2.2.2.2 ?_
  refine R_istore_n (ls2 := [(3, vI 0), (0, vA G t), (1, vI l1), (2, vI l2)]) e_X10_make_1.1 (by decide) rfl ?_
  refine R_ls (ls2 := [(0, vA G t), (3, vI 0)]) [1, 0] rfl ?_
  exact h
theorem S_X10_make_17 {G : Kg} {σ : Kmem} {Q : Int → Kmem → Prop} {t l1 l2 l3 : Int} (ht : isT t) (h : (rI l3) ∧ ((60 ≤ l3 → Q 0 σ) ∧ (l3 < 60 → (0 ≤ l3 ∧ l3 < 60) ∧ E_X10_make_17 G t (l3 + 1) (kup σ (t + 1) l3 0) Q))) : E_X10_make_17 G t l3 σ Q := by
  refine R_iload_n e_X10_make_1.2.1 1 rfl ?_
  refine R_bipush e_X10_make_1.2.2.1 (by decide) ?_
  obtain ⟨q1, h⟩ := h
  refine R_icmp_ge 36 e_X10_make_1.2.2.2.1 (by decide) q1 (by decide) (fun q => ?_) (fun q => ?_)
  · replace h := h.1 q
    exact R_return e_X10_make_2.2 rfl h
  · replace h := h.2 q
    refine R_aload_n e_X10_make_1.2.2.2.2.1 0 rfl ?_
    refine R_getA 10 3 (t + 1) e_X10_make_1.2.2.2.2.2.1 f_X10_22 (kT_self ht) (fun _ _ => rfl) (kT_r3 ht) (kT_n1 ht) ?_
    refine R_iload_n e_X10_make_1.2.2.2.2.2.2.1 1 rfl ?_
    refine R_lconst 0 e_X10_make_1.2.2.2.2.2.2.2.1 (by decide) ?_
    obtain ⟨q2, h⟩ := h
    refine R_last 60 WX_ok e_X10_make_1.2.2.2.2.2.2.2.2.1 (kT_nums ht) q2 ?_
    refine R_iinc (ls2 := [(3, vI (l3 + 1)), (0, vA G t)]) e_X10_make_1.2.2.2.2.2.2.2.2.2 1 rfl (by decide) rfl ?_
    refine R_goto 17 e_X10_make_2.1 (by decide) ?_
    refine R_ls (ls2 := [(0, vA G t), (3, vI (l3 + 1))]) [1, 0] rfl ?_
    exact h
/-! KiteLand$Tray.put(IJ)V -/
theorem e_X10_put_0 : decode cX10_put 0 = .ok (.aload_n 0, 1) ∧ decode cX10_put 1 = .ok (.getfield 15, 3) ∧ decode cX10_put 4 = .ok (.tableswitch 66 0 2 #[28, 41, 54], 28) ∧ decode cX10_put 32 = .ok (.aload_n 0, 1) ∧ decode cX10_put 33 = .ok (.getfield 22, 3) ∧ decode cX10_put 36 = .ok (.iload_n 1, 1) ∧ decode cX10_put 37 = .ok (.lload_n 2, 1) ∧ decode cX10_put 38 = .ok (.l2i, 1) ∧ decode cX10_put 39 = .ok (.i2b, 1) ∧ decode cX10_put 40 = .ok (.i2l, 1) := by decide +kernel
theorem e_X10_put_1 : decode cX10_put 41 = .ok (.lastore, 1) ∧ decode cX10_put 42 = .ok (.goto 35, 3) ∧ decode cX10_put 45 = .ok (.aload_n 0, 1) ∧ decode cX10_put 46 = .ok (.getfield 22, 3) ∧ decode cX10_put 49 = .ok (.iload_n 1, 1) ∧ decode cX10_put 50 = .ok (.lload_n 2, 1) ∧ decode cX10_put 51 = .ok (.l2i, 1) ∧ decode cX10_put 52 = .ok (.i2s, 1) ∧ decode cX10_put 53 = .ok (.i2l, 1) ∧ decode cX10_put 54 = .ok (.lastore, 1) := by decide +kernel
theorem e_X10_put_2 : decode cX10_put 55 = .ok (.goto 22, 3) ∧ decode cX10_put 58 = .ok (.aload_n 0, 1) ∧ decode cX10_put 59 = .ok (.getfield 22, 3) ∧ decode cX10_put 62 = .ok (.iload_n 1, 1) ∧ decode cX10_put 63 = .ok (.lload_n 2, 1) ∧ decode cX10_put 64 = .ok (.l2i, 1) ∧ decode cX10_put 65 = .ok (.i2l, 1) ∧ decode cX10_put 66 = .ok (.lastore, 1) ∧ decode cX10_put 67 = .ok (.goto 10, 3) ∧ decode cX10_put 70 = .ok (.aload_n 0, 1) := by decide +kernel
theorem e_X10_put_3 : decode cX10_put 71 = .ok (.getfield 22, 3) ∧ decode cX10_put 74 = .ok (.iload_n 1, 1) ∧ decode cX10_put 75 = .ok (.lload_n 2, 1) ∧ decode cX10_put 76 = .ok (.lastore, 1) ∧ decode cX10_put 77 = .ok (.return_, 1) := by decide +kernel
theorem S_X10_put {G : Kg} {σ : Kmem} {Q : Int → Kmem → Prop} {t l1 l2 : Int} (ht : isT t) (h : (rI (σ t 1)) ∧ ((σ t 1 = 0 → (rI (ki2b l2)) ∧ (0 ≤ l1 ∧ l1 < 60) ∧ Q 0 (kup σ (t + 1) l1 (ki2b l2))) ∧ (σ t 1 = 1 → (rI (ki2s l2)) ∧ (0 ≤ l1 ∧ l1 < 60) ∧ Q 0 (kup σ (t + 1) l1 (ki2s l2))) ∧ (σ t 1 = 2 → (rI l2) ∧ (0 ≤ l1 ∧ l1 < 60) ∧ Q 0 (kup σ (t + 1) l1 l2)) ∧ (σ t 1 < 0 ∨ 2 < σ t 1 → (0 ≤ l1 ∧ l1 < 60) ∧ Q 0 (kup σ (t + 1) l1 l2)))) : Run G WX M_X10_put 0 0 0 [vA G t, vI l1, vL l2] σ Q := by
  refine Run.of (by decide +kernel) (by show (4 : Nat) ≤ 4; decide) ?_
  show Ex G WX M_X10_put 0 0 0 0 [(0, vA G t), (1, vI l1), (2, vL l2)] [] σ Q
  refine R_aload_n e_X10_put_0.1 0 rfl ?_
  refine R_getI 10 1 1 e_X10_put_0.2.1 f_X10_15 (kT_self ht) (fun _ _ => rfl) rfl ?_
  obtain ⟨q1, h⟩ := h
  by_cases t0 : σ t 1 = 0
  · refine R_tableIn 32 e_X10_put_0.2.2.1 q1 (by omega) (by omega) (off := 28) (by rw [t0]; rfl) (by decide) ?_
    replace h := h.1 t0
    refine R_aload_n e_X10_put_0.2.2.2.1 0 rfl ?_
    refine R_getA 10 3 (t + 1) e_X10_put_0.2.2.2.2.1 f_X10_22 (kT_self ht) (fun _ _ => rfl) (kT_r3 ht) (kT_n1 ht) ?_
    refine R_iload_n e_X10_put_0.2.2.2.2.2.1 1 rfl ?_
    refine R_lload_n e_X10_put_0.2.2.2.2.2.2.1 2 rfl ?_
    refine R_l2i e_X10_put_0.2.2.2.2.2.2.2.1 ?_
    refine R_i2b e_X10_put_0.2.2.2.2.2.2.2.2.1 ?_
    obtain ⟨q2, h⟩ := h
    refine R_i2l e_X10_put_0.2.2.2.2.2.2.2.2.2 q2 ?_
    obtain ⟨q3, h⟩ := h
    refine R_last 60 WX_ok e_X10_put_1.1 (kT_nums ht) q3 ?_
    refine R_goto 77 e_X10_put_1.2.1 (by decide) ?_
    exact R_return e_X10_put_3.2.2.2.2 rfl h
  by_cases t1 : σ t 1 = 1
  · refine R_tableIn 45 e_X10_put_0.2.2.1 q1 (by omega) (by omega) (off := 41) (by rw [t1]; rfl) (by decide) ?_
    replace h := h.2.1 t1
    refine R_aload_n e_X10_put_1.2.2.1 0 rfl ?_
    refine R_getA 10 3 (t + 1) e_X10_put_1.2.2.2.1 f_X10_22 (kT_self ht) (fun _ _ => rfl) (kT_r3 ht) (kT_n1 ht) ?_
    refine R_iload_n e_X10_put_1.2.2.2.2.1 1 rfl ?_
    refine R_lload_n e_X10_put_1.2.2.2.2.2.1 2 rfl ?_
    refine R_l2i e_X10_put_1.2.2.2.2.2.2.1 ?_
    refine R_i2s e_X10_put_1.2.2.2.2.2.2.2.1 ?_
    obtain ⟨q4, h⟩ := h
    refine R_i2l e_X10_put_1.2.2.2.2.2.2.2.2.1 q4 ?_
    obtain ⟨q5, h⟩ := h
    refine R_last 60 WX_ok e_X10_put_1.2.2.2.2.2.2.2.2.2 (kT_nums ht) q5 ?_
    refine R_goto 77 e_X10_put_2.1 (by decide) ?_
    exact R_return e_X10_put_3.2.2.2.2 rfl h
  by_cases t2 : σ t 1 = 2
  · refine R_tableIn 58 e_X10_put_0.2.2.1 q1 (by omega) (by omega) (off := 54) (by rw [t2]; rfl) (by decide) ?_
    replace h := h.2.2.1 t2
    refine R_aload_n e_X10_put_2.2.1 0 rfl ?_
    refine R_getA 10 3 (t + 1) e_X10_put_2.2.2.1 f_X10_22 (kT_self ht) (fun _ _ => rfl) (kT_r3 ht) (kT_n1 ht) ?_
    refine R_iload_n e_X10_put_2.2.2.2.1 1 rfl ?_
    refine R_lload_n e_X10_put_2.2.2.2.2.1 2 rfl ?_
    refine R_l2i e_X10_put_2.2.2.2.2.2.1 ?_
    obtain ⟨q6, h⟩ := h
    refine R_i2l e_X10_put_2.2.2.2.2.2.2.1 q6 ?_
    obtain ⟨q7, h⟩ := h
    refine R_last 60 WX_ok e_X10_put_2.2.2.2.2.2.2.2.1 (kT_nums ht) q7 ?_
    refine R_goto 77 e_X10_put_2.2.2.2.2.2.2.2.2.1 (by decide) ?_
    exact R_return e_X10_put_3.2.2.2.2 rfl h
  refine R_tableOut 70 e_X10_put_0.2.2.1 q1 (by omega) (by decide) ?_
  replace h := h.2.2.2 (by omega)
  refine R_aload_n e_X10_put_2.2.2.2.2.2.2.2.2.2 0 rfl ?_
  refine R_getA 10 3 (t + 1) e_X10_put_3.1 f_X10_22 (kT_self ht) (fun _ _ => rfl) (kT_r3 ht) (kT_n1 ht) ?_
  refine R_iload_n e_X10_put_3.2.1 1 rfl ?_
  refine R_lload_n e_X10_put_3.2.2.1 2 rfl ?_
  obtain ⟨q8, h⟩ := h
  refine R_last 60 WX_ok e_X10_put_3.2.2.2.1 (kT_nums ht) q8 ?_
  exact R_return e_X10_put_3.2.2.2.2 rfl h
/-! KiteLand$Scanner.open([BI)V -/
theorem e_X6_open_0 : decode cX6_open 0 = .ok (.aload_n 1, 1) ∧ decode cX6_open 1 = .ok (.iconst 0, 1) ∧ decode cX6_open 2 = .ok (.aload_n 0, 1) ∧ decode cX6_open 3 = .ok (.getfield 9, 3) ∧ decode cX6_open 6 = .ok (.iconst 0, 1) ∧ decode cX6_open 7 = .ok (.iload_n 2, 1) ∧ decode cX6_open 8 = .ok (.invokestatic 44, 3) ∧ decode cX6_open 11 = .ok (.aload_n 0, 1) ∧ decode cX6_open 12 = .ok (.iload_n 2, 1) ∧ decode cX6_open 13 = .ok (.putfield 15, 3) := by decide +kernel
theorem e_X6_open_1 : decode cX6_open 16 = .ok (.aload_n 0, 1) ∧ decode cX6_open 17 = .ok (.iconst 0, 1) ∧ decode cX6_open 18 = .ok (.putfield 25, 3) ∧ decode cX6_open 21 = .ok (.aload_n 0, 1) ∧ decode cX6_open 22 = .ok (.iconst 0, 1) ∧ decode cX6_open 23 = .ok (.putfield 38, 3) ∧ decode cX6_open 26 = .ok (.aload_n 0, 1) ∧ decode cX6_open 27 = .ok (.iconst (-1), 1) ∧ decode cX6_open 28 = .ok (.putfield 41, 3) ∧ decode cX6_open 31 = .ok (.aload_n 0, 1) := by decide +kernel
theorem e_X6_open_2 : decode cX6_open 32 = .ok (.invokevirtual 50, 3) ∧ decode cX6_open 35 = .ok (.return_, 1) := by decide +kernel
theorem S_X6_open {G : Kg} {σ : Kmem} {Q : Int → Kmem → Prop} {l2 : Int}  (h : (((0 : Int) ≤ 0 ∧ (0 : Int) ≤ 0 ∧ (0 : Int) ≤ l2) ∧ (0 : Int) + l2 ≤ 900 ∧ (0 : Int) + l2 ≤ 900) ∧ (∀ k : Int, 0 ≤ k → k < 0 + l2 → -128 ≤ σ 2 k ∧ σ 2 k ≤ 127) ∧ Run G WX M_X6_next 1 0 0 [vA G 3] (kup (kup (kup (kup (kcpy σ 2 0 4 0 l2) 3 1 l2) 3 4 0) 3 8 0) 3 9 (-1)) (fun r3 s4 => Q 0 s4)) : Run G WX M_X6_open 2 0 0 [vA G 3, vA G 2, vI l2] σ Q := by
  refine Run.of (by decide +kernel) (by show (3 : Nat) ≤ 3; decide) ?_
  show Ex G WX M_X6_open 2 0 0 0 [(0, vA G 3), (1, vA G 2), (2, vI l2)] [] σ Q
  refine R_aload_n e_X6_open_0.1 1 rfl ?_
  refine R_iconst e_X6_open_0.2.1 ?_
  refine R_aload_n e_X6_open_0.2.2.1 0 rfl ?_
  refine R_getA 6 0 4 e_X6_open_0.2.2.2.1 f_X6_9 kx_3 (fun _ _ => rfl) rx_3_0 (by decide) ?_
  refine R_iconst e_X6_open_0.2.2.2.2.1 ?_
  refine R_iload_n e_X6_open_0.2.2.2.2.2.1 2 rfl ?_
  obtain ⟨q1, h⟩ := h
  obtain ⟨q2, h⟩ := h
  refine R_copyB 900 900 rfl WX_rd e_X6_open_0.2.2.2.2.2.2.1 kxa_2 kxa_4 q1 q2 l_cp_X6_44 (by decide) (by show (0 : Nat) ≤ 8; decide) ?_
  refine R_aload_n e_X6_open_0.2.2.2.2.2.2.2.1 0 rfl ?_
  refine R_iload_n e_X6_open_0.2.2.2.2.2.2.2.2.1 2 rfl ?_
  refine R_putI 6 1 1 WX_ok e_X6_open_0.2.2.2.2.2.2.2.2.2 f_X6_15 kx_3 rfl rfl rfl ?_
  refine R_aload_n e_X6_open_1.1 0 rfl ?_
  refine R_iconst e_X6_open_1.2.1 ?_
  refine R_putI 6 4 4 WX_ok e_X6_open_1.2.2.1 f_X6_25 kx_3 rfl rfl rfl ?_
  refine R_aload_n e_X6_open_1.2.2.2.1 0 rfl ?_
  refine R_iconst e_X6_open_1.2.2.2.2.1 ?_
  refine R_putI 6 8 8 WX_ok e_X6_open_1.2.2.2.2.2.1 f_X6_38 kx_3 rfl rfl rfl ?_
  refine R_aload_n e_X6_open_1.2.2.2.2.2.2.1 0 rfl ?_
  refine R_iconst e_X6_open_1.2.2.2.2.2.2.2.1 ?_
  refine R_putI 6 9 9 WX_ok e_X6_open_1.2.2.2.2.2.2.2.2.1 f_X6_41 kx_3 rfl rfl rfl ?_
  refine R_aload_n e_X6_open_1.2.2.2.2.2.2.2.2.2 0 rfl ?_
  refine R_callV (mc := 0) (ms := 0) (mc' := 0) (ms' := 0) (M' := M_X6_next) (d' := 1) (as := []) (st := []) 6 0 e_X6_open_2.1 (kCVof m_X6_next l_X6_50) rfl (by decide) kx_3 (by decide) (by decide) rfl rfl (by show (0 : Nat) ≤ 8; decide) ?_
  refine Run.mono h (fun r3 s4 h => ?_)
  refine R_eqs (st2 := []) rfl rfl ?_
  exact R_return e_X6_open_2.2 rfl h
/-! KiteLand$Scanner.next()V -/
theorem e_X6_next_0 : decode cX6_next 0 = .ok (.aload_n 0, 1) ∧ decode cX6_next 1 = .ok (.aload_n 0, 1) ∧ decode cX6_next 2 = .ok (.getfield 25, 3) ∧ decode cX6_next 5 = .ok (.putfield 22, 3) ∧ decode cX6_next 8 = .ok (.aload_n 0, 1) ∧ decode cX6_next 9 = .ok (.getfield 22, 3) ∧ decode cX6_next 12 = .ok (.aload_n 0, 1) ∧ decode cX6_next 13 = .ok (.getfield 15, 3) ∧ decode cX6_next 16 = .ok (.if_icmp .ge 44, 3) ∧ decode cX6_next 19 = .ok (.aload_n 0, 1) := by decide +kernel
theorem e_X6_next_1 : decode cX6_next 20 = .ok (.getfield 9, 3) ∧ decode cX6_next 23 = .ok (.aload_n 0, 1) ∧ decode cX6_next 24 = .ok (.getfield 22, 3) ∧ decode cX6_next 27 = .ok (.baload, 1) ∧ decode cX6_next 28 = .ok (.bipush 10, 2) ∧ decode cX6_next 30 = .ok (.if_icmp .eq 17, 3) ∧ decode cX6_next 33 = .ok (.aload_n 0, 1) ∧ decode cX6_next 34 = .ok (.getfield 9, 3) ∧ decode cX6_next 37 = .ok (.aload_n 0, 1) ∧ decode cX6_next 38 = .ok (.getfield 22, 3) := by decide +kernel
theorem e_X6_next_2 : decode cX6_next 41 = .ok (.baload, 1) ∧ decode cX6_next 42 = .ok (.bipush 32, 2) ∧ decode cX6_next 44 = .ok (.if_icmp .ne 16, 3) ∧ decode cX6_next 47 = .ok (.aload_n 0, 1) ∧ decode cX6_next 48 = .ok (.dup, 1) ∧ decode cX6_next 49 = .ok (.getfield 22, 3) ∧ decode cX6_next 52 = .ok (.iconst 1, 1) ∧ decode cX6_next 53 = .ok (.iadd, 1) ∧ decode cX6_next 54 = .ok (.putfield 22, 3) ∧ decode cX6_next 57 = .ok (.goto (-49), 3) := by decide +kernel
theorem e_X6_next_3 : decode cX6_next 60 = .ok (.aload_n 0, 1) ∧ decode cX6_next 61 = .ok (.aload_n 0, 1) ∧ decode cX6_next 62 = .ok (.getfield 22, 3) ∧ decode cX6_next 65 = .ok (.putfield 25, 3) ∧ decode cX6_next 68 = .ok (.aload_n 0, 1) ∧ decode cX6_next 69 = .ok (.getfield 22, 3) ∧ decode cX6_next 72 = .ok (.aload_n 0, 1) ∧ decode cX6_next 73 = .ok (.getfield 15, 3) ∧ decode cX6_next 76 = .ok (.if_icmp .lt 11, 3) ∧ decode cX6_next 79 = .ok (.aload_n 0, 1) := by decide +kernel
theorem e_X6_next_4 : decode cX6_next 80 = .ok (.iconst 0, 1) ∧ decode cX6_next 81 = .ok (.putfield 19, 3) ∧ decode cX6_next 84 = .ok (.goto 108, 3) ∧ decode cX6_next 87 = .ok (.aload_n 0, 1) ∧ decode cX6_next 88 = .ok (.getfield 9, 3) ∧ decode cX6_next 91 = .ok (.aload_n 0, 1) ∧ decode cX6_next 92 = .ok (.getfield 22, 3) ∧ decode cX6_next 95 = .ok (.baload, 1) ∧ decode cX6_next 96 = .ok (.bipush 97, 2) ∧ decode cX6_next 98 = .ok (.if_icmp .lt 24, 3) := by decide +kernel
theorem e_X6_next_5 : decode cX6_next 101 = .ok (.aload_n 0, 1) ∧ decode cX6_next 102 = .ok (.getfield 9, 3) ∧ decode cX6_next 105 = .ok (.aload_n 0, 1) ∧ decode cX6_next 106 = .ok (.getfield 22, 3) ∧ decode cX6_next 109 = .ok (.baload, 1) ∧ decode cX6_next 110 = .ok (.bipush 122, 2) ∧ decode cX6_next 112 = .ok (.if_icmp .gt 10, 3) ∧ decode cX6_next 115 = .ok (.aload_n 0, 1) ∧ decode cX6_next 116 = .ok (.invokevirtual 53, 3) ∧ decode cX6_next 119 = .ok (.goto 73, 3) := by decide +kernel
theorem e_X6_next_6 : decode cX6_next 122 = .ok (.aload_n 0, 1) ∧ decode cX6_next 123 = .ok (.getfield 9, 3) ∧ decode cX6_next 126 = .ok (.aload_n 0, 1) ∧ decode cX6_next 127 = .ok (.getfield 22, 3) ∧ decode cX6_next 130 = .ok (.baload, 1) ∧ decode cX6_next 131 = .ok (.bipush 48, 2) ∧ decode cX6_next 133 = .ok (.if_icmp .lt 24, 3) ∧ decode cX6_next 136 = .ok (.aload_n 0, 1) ∧ decode cX6_next 137 = .ok (.getfield 9, 3) ∧ decode cX6_next 140 = .ok (.aload_n 0, 1) := by decide +kernel
theorem e_X6_next_7 : decode cX6_next 141 = .ok (.getfield 22, 3) ∧ decode cX6_next 144 = .ok (.baload, 1) ∧ decode cX6_next 145 = .ok (.bipush 57, 2) ∧ decode cX6_next 147 = .ok (.if_icmp .gt 10, 3) ∧ decode cX6_next 150 = .ok (.aload_n 0, 1) ∧ decode cX6_next 151 = .ok (.invokevirtual 56, 3) ∧ decode cX6_next 154 = .ok (.goto 38, 3) ∧ decode cX6_next 157 = .ok (.aload_n 0, 1) ∧ decode cX6_next 158 = .ok (.aload_n 0, 1) ∧ decode cX6_next 159 = .ok (.aload_n 0, 1) := by decide +kernel
theorem e_X6_next_8 : decode cX6_next 160 = .ok (.getfield 9, 3) ∧ decode cX6_next 163 = .ok (.aload_n 0, 1) ∧ decode cX6_next 164 = .ok (.getfield 22, 3) ∧ decode cX6_next 167 = .ok (.baload, 1) ∧ decode cX6_next 168 = .ok (.invokevirtual 59, 3) ∧ decode cX6_next 171 = .ok (.ifCond .eq 7, 3) ∧ decode cX6_next 174 = .ok (.iconst 4, 1) ∧ decode cX6_next 175 = .ok (.goto 4, 3) ∧ decode cX6_next 178 = .ok (.iconst 1, 1) ∧ decode cX6_next 179 = .ok (.putfield 19, 3) := by decide +kernel
theorem e_X6_next_9 : decode cX6_next 182 = .ok (.aload_n 0, 1) ∧ decode cX6_next 183 = .ok (.aload_n 0, 1) ∧ decode cX6_next 184 = .ok (.getfield 22, 3) ∧ decode cX6_next 187 = .ok (.iconst 1, 1) ∧ decode cX6_next 188 = .ok (.iadd, 1) ∧ decode cX6_next 189 = .ok (.putfield 25, 3) ∧ decode cX6_next 192 = .ok (.return_, 1) := by decide +kernel
abbrev E_X6_next_8 (G : Kg) (σ : Kmem) (Q : Int → Kmem → Prop) : Prop := Ex G WX M_X6_next 1 0 0 8 [(0, vA G 3)] [] σ Q
abbrev E_X6_next_60 (G : Kg) (σ : Kmem) (Q : Int → Kmem → Prop) : Prop := Ex G WX M_X6_next 1 0 0 60 [(0, vA G 3)] [] σ Q
abbrev E_X6_next_122 (G : Kg) (σ : Kmem) (Q : Int → Kmem → Prop) : Prop := Ex G WX M_X6_next 1 0 0 122 [(0, vA G 3)] [] σ Q
theorem S_X6_next {G : Kg} {σ : Kmem} {Q : Int → Kmem → Prop}  (h : E_X6_next_8 G (kup σ 3 3 (σ 3 4)) Q) : Run G WX M_X6_next 1 0 0 [vA G 3] σ Q := by
  refine Run.of (by decide +kernel) (by show (1 : Nat) ≤ 1; decide) ?_
  show Ex G WX M_X6_next 1 0 0 0 [(0, vA G 3)] [] σ Q
  refine R_aload_n e_X6_next_0.1 0 rfl ?_
  refine R_aload_n e_X6_next_0.2.1 0 rfl ?_
  refine R_getI 6 4 4 e_X6_next_0.2.2.1 f_X6_25 kx_3 (fun _ _ => rfl) rfl ?_
  refine R_putI 6 3 3 WX_ok e_X6_next_0.2.2.2.1 f_X6_22 kx_3 rfl rfl rfl ?_
  refine R_ls (ls2 := [(0, vA G 3)]) [0] rfl ?_
  exact h
theorem S_X6_next_8 {G : Kg} {σ : Kmem} {Q : Int → Kmem → Prop}  (h : (rI (σ 3 3)) ∧ (rI (σ 3 1)) ∧ ((σ 3 1 ≤ σ 3 3 → E_X6_next_60 G σ Q) ∧ (σ 3 3 < σ 3 1 → (0 ≤ σ 3 3 ∧ σ 3 3 < 900) ∧ (rI (σ 4 (σ 3 3))) ∧ ((σ 4 (σ 3 3) = 10 → E_X6_next_8 G (kup σ 3 3 ((σ 3 3) + 1)) Q) ∧ (σ 4 (σ 3 3) ≠ 10 → (0 ≤ σ 3 3 ∧ σ 3 3 < 900) ∧ ((σ 4 (σ 3 3) ≠ 32 → E_X6_next_60 G σ Q) ∧ (σ 4 (σ 3 3) = 32 → E_X6_next_8 G (kup σ 3 3 ((σ 3 3) + 1)) Q))))))) : E_X6_next_8 G σ Q := by
  refine R_aload_n e_X6_next_0.2.2.2.2.1 0 rfl ?_
  refine R_getI 6 3 3 e_X6_next_0.2.2.2.2.2.1 f_X6_22 kx_3 (fun _ _ => rfl) rfl ?_
  refine R_aload_n e_X6_next_0.2.2.2.2.2.2.1 0 rfl ?_
  refine R_getI 6 1 1 e_X6_next_0.2.2.2.2.2.2.2.1 f_X6_15 kx_3 (fun _ _ => rfl) rfl ?_
  obtain ⟨q1, h⟩ := h
  obtain ⟨q2, h⟩ := h
  refine R_icmp_ge 60 e_X6_next_0.2.2.2.2.2.2.2.2.1 (by decide) q1 q2 (fun q => ?_) (fun q => ?_)
  · replace h := h.1 q
    refine R_ls (ls2 := [(0, vA G 3)]) [0] rfl ?_
    exact h
  · replace h := h.2 q
    refine R_aload_n e_X6_next_0.2.2.2.2.2.2.2.2.2 0 rfl ?_
    refine R_getA 6 0 4 e_X6_next_1.1 f_X6_9 kx_3 (fun _ _ => rfl) rx_3_0 (by decide) ?_
    refine R_aload_n e_X6_next_1.2.1 0 rfl ?_
    refine R_getI 6 3 3 e_X6_next_1.2.2.1 f_X6_22 kx_3 (fun _ _ => rfl) rfl ?_
    obtain ⟨q3, h⟩ := h
    refine R_bald 900 e_X6_next_1.2.2.2.1 kxa_4 q3 ?_
    refine R_bipush e_X6_next_1.2.2.2.2.1 (by decide) ?_
    obtain ⟨q4, h⟩ := h
    refine R_icmp_eq 47 e_X6_next_1.2.2.2.2.2.1 (by decide) q4 (by decide) (fun q => ?_) (fun q => ?_)
    · replace h := h.1 q
      refine R_aload_n e_X6_next_2.2.2.2.1 0 rfl ?_
      refine R_dup e_X6_next_2.2.2.2.2.1 rfl ?_
      refine R_getI 6 3 3 e_X6_next_2.2.2.2.2.2.1 f_X6_22 kx_3 (fun _ _ => rfl) rfl ?_
      refine R_iconst e_X6_next_2.2.2.2.2.2.2.1 ?_
      refine R_iadd e_X6_next_2.2.2.2.2.2.2.2.1 ?_
      refine R_putI 6 3 3 WX_ok e_X6_next_2.2.2.2.2.2.2.2.2.1 f_X6_22 kx_3 rfl rfl rfl ?_
      refine R_goto 8 e_X6_next_2.2.2.2.2.2.2.2.2.2 (by decide) ?_
      refine R_ls (ls2 := [(0, vA G 3)]) [0] rfl ?_
      exact h
    · replace h := h.2 q
      refine R_aload_n e_X6_next_1.2.2.2.2.2.2.1 0 rfl ?_
      refine R_getA 6 0 4 e_X6_next_1.2.2.2.2.2.2.2.1 f_X6_9 kx_3 (fun _ _ => rfl) rx_3_0 (by decide) ?_
      refine R_aload_n e_X6_next_1.2.2.2.2.2.2.2.2.1 0 rfl ?_
      refine R_getI 6 3 3 e_X6_next_1.2.2.2.2.2.2.2.2.2 f_X6_22 kx_3 (fun _ _ => rfl) rfl ?_
      obtain ⟨q5, h⟩ := h
      refine R_bald 900 e_X6_next_2.1 kxa_4 q5 ?_
      refine R_bipush e_X6_next_2.2.1 (by decide) ?_
      refine R_icmp_ne 60 e_X6_next_2.2.2.1 (by decide) q4 (by decide) (fun q => ?_) (fun q => ?_)
      · replace h := h.1 q
        refine R_ls (ls2 := [(0, vA G 3)]) [0] rfl ?_
        exact h
      · replace h := h.2 q
        refine R_aload_n e_X6_next_2.2.2.2.1 0 rfl ?_
        refine R_dup e_X6_next_2.2.2.2.2.1 rfl ?_
        refine R_getI 6 3 3 e_X6_next_2.2.2.2.2.2.1 f_X6_22 kx_3 (fun _ _ => rfl) rfl ?_
        refine R_iconst e_X6_next_2.2.2.2.2.2.2.1 ?_
        refine R_iadd e_X6_next_2.2.2.2.2.2.2.2.1 ?_
        refine R_putI 6 3 3 WX_ok e_X6_next_2.2.2.2.2.2.2.2.2.1 f_X6_22 kx_3 rfl rfl rfl ?_
        refine R_goto 8 e_X6_next_2.2.2.2.2.2.2.2.2.2 (by decide) ?_
        refine R_ls (ls2 := [(0, vA G 3)]) [0] rfl ?_
        exact h
theorem S_X6_next_60 {G : Kg} {σ : Kmem} {Q : Int → Kmem → Prop}  (h : (rI ((kup σ 3 4 (σ 3 3)) 3 3)) ∧ (rI ((kup σ 3 4 (σ 3 3)) 3 1)) ∧ (((kup σ 3 4 (σ 3 3)) 3 3 < (kup σ 3 4 (σ 3 3)) 3 1 → (0 ≤ (kup σ 3 4 (σ 3 3)) 3 3 ∧ (kup σ 3 4 (σ 3 3)) 3 3 < 900) ∧ (rI ((kup σ 3 4 (σ 3 3)) 4 ((kup σ 3 4 (σ 3 3)) 3 3))) ∧ (((kup σ 3 4 (σ 3 3)) 4 ((kup σ 3 4 (σ 3 3)) 3 3) < 97 → E_X6_next_122 G (kup σ 3 4 (σ 3 3)) Q) ∧ (97 ≤ (kup σ 3 4 (σ 3 3)) 4 ((kup σ 3 4 (σ 3 3)) 3 3) → (0 ≤ (kup σ 3 4 (σ 3 3)) 3 3 ∧ (kup σ 3 4 (σ 3 3)) 3 3 < 900) ∧ ((122 < (kup σ 3 4 (σ 3 3)) 4 ((kup σ 3 4 (σ 3 3)) 3 3) → E_X6_next_122 G (kup σ 3 4 (σ 3 3)) Q) ∧ ((kup σ 3 4 (σ 3 3)) 4 ((kup σ 3 4 (σ 3 3)) 3 3) ≤ 122 → Run G WX M_X6_nextWord 0 0 0 [vA G 3] (kup σ 3 4 (σ 3 3)) (fun r11 s12 => Q 0 s12)))))) ∧ ((kup σ 3 4 (σ 3 3)) 3 1 ≤ (kup σ 3 4 (σ 3 3)) 3 3 → Q 0 (kup (kup σ 3 4 (σ 3 3)) 3 2 0)))) : E_X6_next_60 G σ Q := by
  refine R_aload_n e_X6_next_3.1 0 rfl ?_
  refine R_aload_n e_X6_next_3.2.1 0 rfl ?_
  refine R_getI 6 3 3 e_X6_next_3.2.2.1 f_X6_22 kx_3 (fun _ _ => rfl) rfl ?_
  refine R_putI 6 4 4 WX_ok e_X6_next_3.2.2.2.1 f_X6_25 kx_3 rfl rfl rfl ?_
  refine R_aload_n e_X6_next_3.2.2.2.2.1 0 rfl ?_
  refine R_getI 6 3 3 e_X6_next_3.2.2.2.2.2.1 f_X6_22 kx_3 (fun _ _ => rfl) rfl ?_
  refine R_aload_n e_X6_next_3.2.2.2.2.2.2.1 0 rfl ?_
  refine R_getI 6 1 1 e_X6_next_3.2.2.2.2.2.2.2.1 f_X6_15 kx_3 (fun _ _ => rfl) rfl ?_
  obtain ⟨q6, h⟩ := h
  obtain ⟨q7, h⟩ := h
  refine R_icmp_lt 87 e_X6_next_3.2.2.2.2.2.2.2.2.1 (by decide) q6 q7 (fun q => ?_) (fun q => ?_)
  · replace h := h.1 q
    refine R_aload_n e_X6_next_4.2.2.2.1 0 rfl ?_
    refine R_getA 6 0 4 e_X6_next_4.2.2.2.2.1 f_X6_9 kx_3 (fun _ _ => rfl) rx_3_0 (by decide) ?_
    refine R_aload_n e_X6_next_4.2.2.2.2.2.1 0 rfl ?_
    refine R_getI 6 3 3 e_X6_next_4.2.2.2.2.2.2.1 f_X6_22 kx_3 (fun _ _ => rfl) rfl ?_
    obtain ⟨q8, h⟩ := h
    refine R_bald 900 e_X6_next_4.2.2.2.2.2.2.2.1 kxa_4 q8 ?_
    refine R_bipush e_X6_next_4.2.2.2.2.2.2.2.2.1 (by decide) ?_
    obtain ⟨q9, h⟩ := h
    refine R_icmp_lt 122 e_X6_next_4.2.2.2.2.2.2.2.2.2 (by decide) q9 (by decide) (fun q => ?_) (fun q => ?_)
    · replace h := h.1 q
      refine R_ls (ls2 := [(0, vA G 3)]) [0] rfl ?_
      exact h
    · replace h := h.2 q
      refine R_aload_n e_X6_next_5.1 0 rfl ?_
      refine R_getA 6 0 4 e_X6_next_5.2.1 f_X6_9 kx_3 (fun _ _ => rfl) rx_3_0 (by decide) ?_
      refine R_aload_n e_X6_next_5.2.2.1 0 rfl ?_
      refine R_getI 6 3 3 e_X6_next_5.2.2.2.1 f_X6_22 kx_3 (fun _ _ => rfl) rfl ?_
      obtain ⟨q10, h⟩ := h
      refine R_bald 900 e_X6_next_5.2.2.2.2.1 kxa_4 q10 ?_
      refine R_bipush e_X6_next_5.2.2.2.2.2.1 (by decide) ?_
      refine R_icmp_gt 122 e_X6_next_5.2.2.2.2.2.2.1 (by decide) q9 (by decide) (fun q => ?_) (fun q => ?_)
      · replace h := h.1 q
        refine R_ls (ls2 := [(0, vA G 3)]) [0] rfl ?_
        exact h
      · replace h := h.2 q
        refine R_aload_n e_X6_next_5.2.2.2.2.2.2.2.1 0 rfl ?_
        refine R_callV (mc := 0) (ms := 0) (mc' := 0) (ms' := 0) (M' := M_X6_nextWord) (d' := 0) (as := []) (st := []) 6 0 e_X6_next_5.2.2.2.2.2.2.2.2.1 (kCVof m_X6_nextWord l_X6_53) rfl (by decide) kx_3 (by decide) (by decide) rfl rfl (by show (0 : Nat) ≤ 8; decide) ?_
        refine Run.mono h (fun r11 s12 h => ?_)
        refine R_eqs (st2 := []) rfl rfl ?_
        refine R_goto 192 e_X6_next_5.2.2.2.2.2.2.2.2.2 (by decide) ?_
        exact R_return e_X6_next_9.2.2.2.2.2.2 rfl h
  · replace h := h.2 q
    refine R_aload_n e_X6_next_3.2.2.2.2.2.2.2.2.2 0 rfl ?_
    refine R_iconst e_X6_next_4.1 ?_
    refine R_putI 6 2 2 WX_ok e_X6_next_4.2.1 f_X6_19 kx_3 rfl rfl rfl ?_
    refine R_goto 192 e_X6_next_4.2.2.1 (by decide) ?_
    exact R_return e_X6_next_9.2.2.2.2.2.2 rfl h
theorem S_X6_next_122 {G : Kg} {σ : Kmem} {Q : Int → Kmem → Prop}  (h : (0 ≤ σ 3 3 ∧ σ 3 3 < 900) ∧ (rI (σ 4 (σ 3 3))) ∧ ((σ 4 (σ 3 3) < 48 → (0 ≤ σ 3 3 ∧ σ 3 3 < 900) ∧ Run G WX M_X6_isSign 0 0 0 [vA G 3, vI (σ 4 (σ 3 3))] σ (fun r16 s17 => (rI r16) ∧ ((r16 = 0 → Q 0 (kup (kup s17 3 2 1) 3 4 (((kup s17 3 2 1) 3 3) + 1))) ∧ (r16 ≠ 0 → Q 0 (kup (kup s17 3 2 4) 3 4 (((kup s17 3 2 4) 3 3) + 1)))))) ∧ (48 ≤ σ 4 (σ 3 3) → (0 ≤ σ 3 3 ∧ σ 3 3 < 900) ∧ ((57 < σ 4 (σ 3 3) → (0 ≤ σ 3 3 ∧ σ 3 3 < 900) ∧ Run G WX M_X6_isSign 0 0 0 [vA G 3, vI (σ 4 (σ 3 3))] σ (fun r21 s22 => (rI r21) ∧ ((r21 = 0 → Q 0 (kup (kup s22 3 2 1) 3 4 (((kup s22 3 2 1) 3 3) + 1))) ∧ (r21 ≠ 0 → Q 0 (kup (kup s22 3 2 4) 3 4 (((kup s22 3 2 4) 3 3) + 1)))))) ∧ (σ 4 (σ 3 3) ≤ 57 → Run G WX M_X6_nextNumber 0 0 0 [vA G 3] σ (fun r24 s25 => Q 0 s25)))))) : E_X6_next_122 G σ Q := by
  refine R_aload_n e_X6_next_6.1 0 rfl ?_
  refine R_getA 6 0 4 e_X6_next_6.2.1 f_X6_9 kx_3 (fun _ _ => rfl) rx_3_0 (by decide) ?_
  refine R_aload_n e_X6_next_6.2.2.1 0 rfl ?_
  refine R_getI 6 3 3 e_X6_next_6.2.2.2.1 f_X6_22 kx_3 (fun _ _ => rfl) rfl ?_
  obtain ⟨q13, h⟩ := h
  refine R_bald 900 e_X6_next_6.2.2.2.2.1 kxa_4 q13 ?_
  refine R_bipush e_X6_next_6.2.2.2.2.2.1 (by decide) ?_
  obtain ⟨q14, h⟩ := h
  refine R_icmp_lt 157 e_X6_next_6.2.2.2.2.2.2.1 (by decide) q14 (by decide) (fun q => ?_) (fun q => ?_)
  · replace h := h.1 q
    refine R_aload_n e_X6_next_7.2.2.2.2.2.2.2.1 0 rfl ?_
    refine R_aload_n e_X6_next_7.2.2.2.2.2.2.2.2.1 0 rfl ?_
    refine R_aload_n e_X6_next_7.2.2.2.2.2.2.2.2.2 0 rfl ?_
    refine R_getA 6 0 4 e_X6_next_8.1 f_X6_9 kx_3 (fun _ _ => rfl) rx_3_0 (by decide) ?_
    refine R_aload_n e_X6_next_8.2.1 0 rfl ?_
    refine R_getI 6 3 3 e_X6_next_8.2.2.1 f_X6_22 kx_3 (fun _ _ => rfl) rfl ?_
    obtain ⟨q15, h⟩ := h
    refine R_bald 900 e_X6_next_8.2.2.2.1 kxa_4 q15 ?_
    refine R_callV (mc := 0) (ms := 0) (mc' := 0) (ms' := 0) (M' := M_X6_isSign) (d' := 0) (as := [vI (σ 4 (σ 3 3))]) (st := [vA G 3]) 6 1 e_X6_next_8.2.2.2.2.1 (kCVof m_X6_isSign l_X6_59) rfl (by decide) kx_3 (by decide) (by decide) rfl rfl (by show (1 : Nat) ≤ 8; decide) ?_
    refine Run.mono h (fun r16 s17 h => ?_)
    refine R_eqs (st2 := [vI r16, vA G 3]) rfl rfl ?_
    obtain ⟨q18, h⟩ := h
    refine R_if_eq 178 e_X6_next_8.2.2.2.2.2.1 (by decide) q18  (fun q => ?_) (fun q => ?_)
    · replace h := h.1 q
      refine R_iconst e_X6_next_8.2.2.2.2.2.2.2.2.1 ?_
      refine R_putI 6 2 2 WX_ok e_X6_next_8.2.2.2.2.2.2.2.2.2 f_X6_19 kx_3 rfl rfl rfl ?_
      refine R_aload_n e_X6_next_9.1 0 rfl ?_
      refine R_aload_n e_X6_next_9.2.1 0 rfl ?_
      refine R_getI 6 3 3 e_X6_next_9.2.2.1 f_X6_22 kx_3 (fun _ _ => rfl) rfl ?_
      refine R_iconst e_X6_next_9.2.2.2.1 ?_
      refine R_iadd e_X6_next_9.2.2.2.2.1 ?_
      refine R_putI 6 4 4 WX_ok e_X6_next_9.2.2.2.2.2.1 f_X6_25 kx_3 rfl rfl rfl ?_
      exact R_return e_X6_next_9.2.2.2.2.2.2 rfl h
    · replace h := h.2 q
      refine R_iconst e_X6_next_8.2.2.2.2.2.2.1 ?_
      refine R_goto 179 e_X6_next_8.2.2.2.2.2.2.2.1 (by decide) ?_
      refine R_putI 6 2 2 WX_ok e_X6_next_8.2.2.2.2.2.2.2.2.2 f_X6_19 kx_3 rfl rfl rfl ?_
      refine R_aload_n e_X6_next_9.1 0 rfl ?_
      refine R_aload_n e_X6_next_9.2.1 0 rfl ?_
      refine R_getI 6 3 3 e_X6_next_9.2.2.1 f_X6_22 kx_3 (fun _ _ => rfl) rfl ?_
      refine R_iconst e_X6_next_9.2.2.2.1 ?_
      refine R_iadd e_X6_next_9.2.2.2.2.1 ?_
      refine R_putI 6 4 4 WX_ok e_X6_next_9.2.2.2.2.2.1 f_X6_25 kx_3 rfl rfl rfl ?_
      exact R_return e_X6_next_9.2.2.2.2.2.2 rfl h
  · replace h := h.2 q
    refine R_aload_n e_X6_next_6.2.2.2.2.2.2.2.1 0 rfl ?_
    refine R_getA 6 0 4 e_X6_next_6.2.2.2.2.2.2.2.2.1 f_X6_9 kx_3 (fun _ _ => rfl) rx_3_0 (by decide) ?_
    refine R_aload_n e_X6_next_6.2.2.2.2.2.2.2.2.2 0 rfl ?_
    refine R_getI 6 3 3 e_X6_next_7.1 f_X6_22 kx_3 (fun _ _ => rfl) rfl ?_
    obtain ⟨q19, h⟩ := h
    refine R_bald 900 e_X6_next_7.2.1 kxa_4 q19 ?_
    refine R_bipush e_X6_next_7.2.2.1 (by decide) ?_
    refine R_icmp_gt 157 e_X6_next_7.2.2.2.1 (by decide) q14 (by decide) (fun q => ?_) (fun q => ?_)
    · replace h := h.1 q
      refine R_aload_n e_X6_next_7.2.2.2.2.2.2.2.1 0 rfl ?_
      refine R_aload_n e_X6_next_7.2.2.2.2.2.2.2.2.1 0 rfl ?_
      refine R_aload_n e_X6_next_7.2.2.2.2.2.2.2.2.2 0 rfl ?_
      refine R_getA 6 0 4 e_X6_next_8.1 f_X6_9 kx_3 (fun _ _ => rfl) rx_3_0 (by decide) ?_
      refine R_aload_n e_X6_next_8.2.1 0 rfl ?_
      refine R_getI 6 3 3 e_X6_next_8.2.2.1 f_X6_22 kx_3 (fun _ _ => rfl) rfl ?_
      obtain ⟨q20, h⟩ := h
      refine R_bald 900 e_X6_next_8.2.2.2.1 kxa_4 q20 ?_
      refine R_callV (mc := 0) (ms := 0) (mc' := 0) (ms' := 0) (M' := M_X6_isSign) (d' := 0) (as := [vI (σ 4 (σ 3 3))]) (st := [vA G 3]) 6 1 e_X6_next_8.2.2.2.2.1 (kCVof m_X6_isSign l_X6_59) rfl (by decide) kx_3 (by decide) (by decide) rfl rfl (by show (1 : Nat) ≤ 8; decide) ?_
      refine Run.mono h (fun r21 s22 h => ?_)
      refine R_eqs (st2 := [vI r21, vA G 3]) rfl rfl ?_
      obtain ⟨q23, h⟩ := h
      refine R_if_eq 178 e_X6_next_8.2.2.2.2.2.1 (by decide) q23  (fun q => ?_) (fun q => ?_)
      · replace h := h.1 q
        refine R_iconst e_X6_next_8.2.2.2.2.2.2.2.2.1 ?_
        refine R_putI 6 2 2 WX_ok e_X6_next_8.2.2.2.2.2.2.2.2.2 f_X6_19 kx_3 rfl rfl rfl ?_
        refine R_aload_n e_X6_next_9.1 0 rfl ?_
        refine R_aload_n e_X6_next_9.2.1 0 rfl ?_
        refine R_getI 6 3 3 e_X6_next_9.2.2.1 f_X6_22 kx_3 (fun _ _ => rfl) rfl ?_
        refine R_iconst e_X6_next_9.2.2.2.1 ?_
        refine R_iadd e_X6_next_9.2.2.2.2.1 ?_
        refine R_putI 6 4 4 WX_ok e_X6_next_9.2.2.2.2.2.1 f_X6_25 kx_3 rfl rfl rfl ?_
        exact R_return e_X6_next_9.2.2.2.2.2.2 rfl h
      · replace h := h.2 q
        refine R_iconst e_X6_next_8.2.2.2.2.2.2.1 ?_
        refine R_goto 179 e_X6_next_8.2.2.2.2.2.2.2.1 (by decide) ?_
        refine R_putI 6 2 2 WX_ok e_X6_next_8.2.2.2.2.2.2.2.2.2 f_X6_19 kx_3 rfl rfl rfl ?_
        refine R_aload_n e_X6_next_9.1 0 rfl ?_
        refine R_aload_n e_X6_next_9.2.1 0 rfl ?_
        refine R_getI 6 3 3 e_X6_next_9.2.2.1 f_X6_22 kx_3 (fun _ _ => rfl) rfl ?_
        refine R_iconst e_X6_next_9.2.2.2.1 ?_
        refine R_iadd e_X6_next_9.2.2.2.2.1 ?_
        refine R_putI 6 4 4 WX_ok e_X6_next_9.2.2.2.2.2.1 f_X6_25 kx_3 rfl rfl rfl ?_
        exact R_return e_X6_next_9.2.2.2.2.2.2 rfl h
    · replace h := h.2 q
      refine R_aload_n e_X6_next_7.2.2.2.2.1 0 rfl ?_
      refine R_callV (mc := 0) (ms := 0) (mc' := 0) (ms' := 0) (M' := M_X6_nextNumber) (d' := 0) (as := []) (st := []) 6 0 e_X6_next_7.2.2.2.2.2.1 (kCVof m_X6_nextNumber l_X6_56) rfl (by decide) kx_3 (by decide) (by decide) rfl rfl (by show (0 : Nat) ≤ 8; decide) ?_
      refine Run.mono h (fun r24 s25 h => ?_)
      refine R_eqs (st2 := []) rfl rfl ?_
      refine R_goto 192 e_X6_next_7.2.2.2.2.2.2.1 (by decide) ?_
      exact R_return e_X6_next_9.2.2.2.2.2.2 rfl h
/-! KiteLand$Scanner.nextWord()V -/
theorem e_X6_nextWord_0 : decode cX6_nextWord 0 = .ok (.aload_n 0, 1) ∧ decode cX6_nextWord 1 = .ok (.iconst 2, 1) ∧ decode cX6_nextWord 2 = .ok (.putfield 19, 3) ∧ decode cX6_nextWord 5 = .ok (.aload_n 0, 1) ∧ decode cX6_nextWord 6 = .ok (.lconst 0, 1) ∧ decode cX6_nextWord 7 = .ok (.putfield 31, 3) ∧ decode cX6_nextWord 10 = .ok (.aload_n 0, 1) ∧ decode cX6_nextWord 11 = .ok (.getfield 25, 3) ∧ decode cX6_nextWord 14 = .ok (.aload_n 0, 1) ∧ decode cX6_nextWord 15 = .ok (.getfield 15, 3) := by decide +kernel
theorem e_X6_nextWord_1 : decode cX6_nextWord 18 = .ok (.if_icmp .ge 72, 3) ∧ decode cX6_nextWord 21 = .ok (.aload_n 0, 1) ∧ decode cX6_nextWord 22 = .ok (.getfield 9, 3) ∧ decode cX6_nextWord 25 = .ok (.aload_n 0, 1) ∧ decode cX6_nextWord 26 = .ok (.getfield 25, 3) ∧ decode cX6_nextWord 29 = .ok (.baload, 1) ∧ decode cX6_nextWord 30 = .ok (.bipush 97, 2) ∧ decode cX6_nextWord 32 = .ok (.if_icmp .lt 58, 3) ∧ decode cX6_nextWord 35 = .ok (.aload_n 0, 1) ∧ decode cX6_nextWord 36 = .ok (.getfield 9, 3) := by decide +kernel
theorem e_X6_nextWord_2 : decode cX6_nextWord 39 = .ok (.aload_n 0, 1) ∧ decode cX6_nextWord 40 = .ok (.getfield 25, 3) ∧ decode cX6_nextWord 43 = .ok (.baload, 1) ∧ decode cX6_nextWord 44 = .ok (.bipush 122, 2) ∧ decode cX6_nextWord 46 = .ok (.if_icmp .gt 44, 3) ∧ decode cX6_nextWord 49 = .ok (.aload_n 0, 1) ∧ decode cX6_nextWord 50 = .ok (.aload_n 0, 1) ∧ decode cX6_nextWord 51 = .ok (.getfield 31, 3) ∧ decode cX6_nextWord 54 = .ok (.ldc2_w 63, 3) ∧ decode cX6_nextWord 57 = .ok (.lmul, 1) := by decide +kernel
theorem e_X6_nextWord_3 : decode cX6_nextWord 58 = .ok (.aload_n 0, 1) ∧ decode cX6_nextWord 59 = .ok (.getfield 9, 3) ∧ decode cX6_nextWord 62 = .ok (.aload_n 0, 1) ∧ decode cX6_nextWord 63 = .ok (.getfield 25, 3) ∧ decode cX6_nextWord 66 = .ok (.baload, 1) ∧ decode cX6_nextWord 67 = .ok (.bipush 97, 2) ∧ decode cX6_nextWord 69 = .ok (.isub, 1) ∧ decode cX6_nextWord 70 = .ok (.iconst 1, 1) ∧ decode cX6_nextWord 71 = .ok (.iadd, 1) ∧ decode cX6_nextWord 72 = .ok (.i2l, 1) := by decide +kernel
theorem e_X6_nextWord_4 : decode cX6_nextWord 73 = .ok (.ladd, 1) ∧ decode cX6_nextWord 74 = .ok (.putfield 31, 3) ∧ decode cX6_nextWord 77 = .ok (.aload_n 0, 1) ∧ decode cX6_nextWord 78 = .ok (.dup, 1) ∧ decode cX6_nextWord 79 = .ok (.getfield 25, 3) ∧ decode cX6_nextWord 82 = .ok (.iconst 1, 1) ∧ decode cX6_nextWord 83 = .ok (.iadd, 1) ∧ decode cX6_nextWord 84 = .ok (.putfield 25, 3) ∧ decode cX6_nextWord 87 = .ok (.goto (-77), 3) ∧ decode cX6_nextWord 90 = .ok (.return_, 1) := by decide +kernel
abbrev E_X6_nextWord_10 (G : Kg) (σ : Kmem) (Q : Int → Kmem → Prop) : Prop := Ex G WX M_X6_nextWord 0 0 0 10 [(0, vA G 3)] [] σ Q
theorem S_X6_nextWord {G : Kg} {σ : Kmem} {Q : Int → Kmem → Prop}  (h : E_X6_nextWord_10 G (kup (kup σ 3 2 2) 3 6 0) Q) : Run G WX M_X6_nextWord 0 0 0 [vA G 3] σ Q := by
  refine Run.of (by decide +kernel) (by show (1 : Nat) ≤ 1; decide) ?_
  show Ex G WX M_X6_nextWord 0 0 0 0 [(0, vA G 3)] [] σ Q
  refine R_aload_n e_X6_nextWord_0.1 0 rfl ?_
  refine R_iconst e_X6_nextWord_0.2.1 ?_
  refine R_putI 6 2 2 WX_ok e_X6_nextWord_0.2.2.1 f_X6_19 kx_3 rfl rfl rfl ?_
  refine R_aload_n e_X6_nextWord_0.2.2.2.1 0 rfl ?_
  refine R_lconst 0 e_X6_nextWord_0.2.2.2.2.1 (by decide) ?_
  refine R_putL 6 6 6 WX_ok e_X6_nextWord_0.2.2.2.2.2.1 f_X6_31 kx_3 rfl rfl rfl ?_
  refine R_ls (ls2 := [(0, vA G 3)]) [0] rfl ?_
  exact h
theorem S_X6_nextWord_10 {G : Kg} {σ : Kmem} {Q : Int → Kmem → Prop}  (h : (rI (σ 3 4)) ∧ (rI (σ 3 1)) ∧ ((σ 3 1 ≤ σ 3 4 → Q 0 σ) ∧ (σ 3 4 < σ 3 1 → (0 ≤ σ 3 4 ∧ σ 3 4 < 900) ∧ (rI (σ 4 (σ 3 4))) ∧ ((σ 4 (σ 3 4) < 97 → Q 0 σ) ∧ (97 ≤ σ 4 (σ 3 4) → (0 ≤ σ 3 4 ∧ σ 3 4 < 900) ∧ ((122 < σ 4 (σ 3 4) → Q 0 σ) ∧ (σ 4 (σ 3 4) ≤ 122 → (0 ≤ σ 3 4 ∧ σ 3 4 < 900) ∧ (rI (((σ 4 (σ 3 4)) - 97) + 1)) ∧ E_X6_nextWord_10 G (kup (kup σ 3 6 (((σ 3 6) * 32) + (((σ 4 (σ 3 4)) - 97) + 1))) 3 4 (((kup σ 3 6 (((σ 3 6) * 32) + (((σ 4 (σ 3 4)) - 97) + 1))) 3 4) + 1)) Q))))))) : E_X6_nextWord_10 G σ Q := by
  refine R_aload_n e_X6_nextWord_0.2.2.2.2.2.2.1 0 rfl ?_
  refine R_getI 6 4 4 e_X6_nextWord_0.2.2.2.2.2.2.2.1 f_X6_25 kx_3 (fun _ _ => rfl) rfl ?_
  refine R_aload_n e_X6_nextWord_0.2.2.2.2.2.2.2.2.1 0 rfl ?_
  refine R_getI 6 1 1 e_X6_nextWord_0.2.2.2.2.2.2.2.2.2 f_X6_15 kx_3 (fun _ _ => rfl) rfl ?_
  obtain ⟨q1, h⟩ := h
  obtain ⟨q2, h⟩ := h
  refine R_icmp_ge 90 e_X6_nextWord_1.1 (by decide) q1 q2 (fun q => ?_) (fun q => ?_)
  · replace h := h.1 q
    exact R_return e_X6_nextWord_4.2.2.2.2.2.2.2.2.2 rfl h
  · replace h := h.2 q
    refine R_aload_n e_X6_nextWord_1.2.1 0 rfl ?_
    refine R_getA 6 0 4 e_X6_nextWord_1.2.2.1 f_X6_9 kx_3 (fun _ _ => rfl) rx_3_0 (by decide) ?_
    refine R_aload_n e_X6_nextWord_1.2.2.2.1 0 rfl ?_
    refine R_getI 6 4 4 e_X6_nextWord_1.2.2.2.2.1 f_X6_25 kx_3 (fun _ _ => rfl) rfl ?_
    obtain ⟨q3, h⟩ := h
    refine R_bald 900 e_X6_nextWord_1.2.2.2.2.2.1 kxa_4 q3 ?_
    refine R_bipush e_X6_nextWord_1.2.2.2.2.2.2.1 (by decide) ?_
    obtain ⟨q4, h⟩ := h
    refine R_icmp_lt 90 e_X6_nextWord_1.2.2.2.2.2.2.2.1 (by decide) q4 (by decide) (fun q => ?_) (fun q => ?_)
    · replace h := h.1 q
      exact R_return e_X6_nextWord_4.2.2.2.2.2.2.2.2.2 rfl h
    · replace h := h.2 q
      refine R_aload_n e_X6_nextWord_1.2.2.2.2.2.2.2.2.1 0 rfl ?_
      refine R_getA 6 0 4 e_X6_nextWord_1.2.2.2.2.2.2.2.2.2 f_X6_9 kx_3 (fun _ _ => rfl) rx_3_0 (by decide) ?_
      refine R_aload_n e_X6_nextWord_2.1 0 rfl ?_
      refine R_getI 6 4 4 e_X6_nextWord_2.2.1 f_X6_25 kx_3 (fun _ _ => rfl) rfl ?_
      obtain ⟨q5, h⟩ := h
      refine R_bald 900 e_X6_nextWord_2.2.2.1 kxa_4 q5 ?_
      refine R_bipush e_X6_nextWord_2.2.2.2.1 (by decide) ?_
      refine R_icmp_gt 90 e_X6_nextWord_2.2.2.2.2.1 (by decide) q4 (by decide) (fun q => ?_) (fun q => ?_)
      · replace h := h.1 q
        exact R_return e_X6_nextWord_4.2.2.2.2.2.2.2.2.2 rfl h
      · replace h := h.2 q
        refine R_aload_n e_X6_nextWord_2.2.2.2.2.2.1 0 rfl ?_
        refine R_aload_n e_X6_nextWord_2.2.2.2.2.2.2.1 0 rfl ?_
        refine R_getL 6 6 6 e_X6_nextWord_2.2.2.2.2.2.2.2.1 f_X6_31 kx_3 (fun _ _ => rfl) rfl ?_
        refine R_ldc2 (32) k_X6_63 e_X6_nextWord_2.2.2.2.2.2.2.2.2.1 ?_
        refine R_lmul e_X6_nextWord_2.2.2.2.2.2.2.2.2.2 ?_
        refine R_aload_n e_X6_nextWord_3.1 0 rfl ?_
        refine R_getA 6 0 4 e_X6_nextWord_3.2.1 f_X6_9 kx_3 (fun _ _ => rfl) rx_3_0 (by decide) ?_
        refine R_aload_n e_X6_nextWord_3.2.2.1 0 rfl ?_
        refine R_getI 6 4 4 e_X6_nextWord_3.2.2.2.1 f_X6_25 kx_3 (fun _ _ => rfl) rfl ?_
        obtain ⟨q6, h⟩ := h
        refine R_bald 900 e_X6_nextWord_3.2.2.2.2.1 kxa_4 q6 ?_
        refine R_bipush e_X6_nextWord_3.2.2.2.2.2.1 (by decide) ?_
        refine R_isub e_X6_nextWord_3.2.2.2.2.2.2.1 ?_
        refine R_iconst e_X6_nextWord_3.2.2.2.2.2.2.2.1 ?_
        refine R_iadd e_X6_nextWord_3.2.2.2.2.2.2.2.2.1 ?_
        obtain ⟨q7, h⟩ := h
        refine R_i2l e_X6_nextWord_3.2.2.2.2.2.2.2.2.2 q7 ?_
        refine R_ladd e_X6_nextWord_4.1 ?_
        refine R_putL 6 6 6 WX_ok e_X6_nextWord_4.2.1 f_X6_31 kx_3 rfl rfl rfl ?_
        refine R_aload_n e_X6_nextWord_4.2.2.1 0 rfl ?_
        refine R_dup e_X6_nextWord_4.2.2.2.1 rfl ?_
        refine R_getI 6 4 4 e_X6_nextWord_4.2.2.2.2.1 f_X6_25 kx_3 (fun _ _ => rfl) rfl ?_
        refine R_iconst e_X6_nextWord_4.2.2.2.2.2.1 ?_
        refine R_iadd e_X6_nextWord_4.2.2.2.2.2.2.1 ?_
        refine R_putI 6 4 4 WX_ok e_X6_nextWord_4.2.2.2.2.2.2.2.1 f_X6_25 kx_3 rfl rfl rfl ?_
        refine R_goto 10 e_X6_nextWord_4.2.2.2.2.2.2.2.2.1 (by decide) ?_
        refine R_ls (ls2 := [(0, vA G 3)]) [0] rfl ?_
        exact h
/-! KiteLand$Scanner.nextNumber()V -/
theorem e_X6_nextNumber_0 : decode cX6_nextNumber 0 = .ok (.aload_n 0, 1) ∧ decode cX6_nextNumber 1 = .ok (.iconst 0, 1) ∧ decode cX6_nextNumber 2 = .ok (.putfield 28, 3) ∧ decode cX6_nextNumber 5 = .ok (.aload_n 0, 1) ∧ decode cX6_nextNumber 6 = .ok (.getfield 25, 3) ∧ decode cX6_nextNumber 9 = .ok (.aload_n 0, 1) ∧ decode cX6_nextNumber 10 = .ok (.getfield 15, 3) ∧ decode cX6_nextNumber 13 = .ok (.if_icmp .ge 68, 3) ∧ decode cX6_nextNumber 16 = .ok (.aload_n 0, 1) ∧ decode cX6_nextNumber 17 = .ok (.getfield 9, 3) := by decide +kernel
theorem e_X6_nextNumber_1 : decode cX6_nextNumber 20 = .ok (.aload_n 0, 1) ∧ decode cX6_nextNumber 21 = .ok (.getfield 25, 3) ∧ decode cX6_nextNumber 24 = .ok (.baload, 1) ∧ decode cX6_nextNumber 25 = .ok (.bipush 48, 2) ∧ decode cX6_nextNumber 27 = .ok (.if_icmp .lt 54, 3) ∧ decode cX6_nextNumber 30 = .ok (.aload_n 0, 1) ∧ decode cX6_nextNumber 31 = .ok (.getfield 9, 3) ∧ decode cX6_nextNumber 34 = .ok (.aload_n 0, 1) ∧ decode cX6_nextNumber 35 = .ok (.getfield 25, 3) ∧ decode cX6_nextNumber 38 = .ok (.baload, 1) := by decide +kernel
theorem e_X6_nextNumber_2 : decode cX6_nextNumber 39 = .ok (.bipush 57, 2) ∧ decode cX6_nextNumber 41 = .ok (.if_icmp .gt 40, 3) ∧ decode cX6_nextNumber 44 = .ok (.aload_n 0, 1) ∧ decode cX6_nextNumber 45 = .ok (.aload_n 0, 1) ∧ decode cX6_nextNumber 46 = .ok (.getfield 28, 3) ∧ decode cX6_nextNumber 49 = .ok (.bipush 10, 2) ∧ decode cX6_nextNumber 51 = .ok (.imul, 1) ∧ decode cX6_nextNumber 52 = .ok (.aload_n 0, 1) ∧ decode cX6_nextNumber 53 = .ok (.getfield 9, 3) ∧ decode cX6_nextNumber 56 = .ok (.aload_n 0, 1) := by decide +kernel
theorem e_X6_nextNumber_3 : decode cX6_nextNumber 57 = .ok (.getfield 25, 3) ∧ decode cX6_nextNumber 60 = .ok (.baload, 1) ∧ decode cX6_nextNumber 61 = .ok (.bipush 48, 2) ∧ decode cX6_nextNumber 63 = .ok (.isub, 1) ∧ decode cX6_nextNumber 64 = .ok (.iadd, 1) ∧ decode cX6_nextNumber 65 = .ok (.putfield 28, 3) ∧ decode cX6_nextNumber 68 = .ok (.aload_n 0, 1) ∧ decode cX6_nextNumber 69 = .ok (.dup, 1) ∧ decode cX6_nextNumber 70 = .ok (.getfield 25, 3) ∧ decode cX6_nextNumber 73 = .ok (.iconst 1, 1) := by decide +kernel
theorem e_X6_nextNumber_4 : decode cX6_nextNumber 74 = .ok (.iadd, 1) ∧ decode cX6_nextNumber 75 = .ok (.putfield 25, 3) ∧ decode cX6_nextNumber 78 = .ok (.goto (-73), 3) ∧ decode cX6_nextNumber 81 = .ok (.aload_n 0, 1) ∧ decode cX6_nextNumber 82 = .ok (.aload_n 0, 1) ∧ decode cX6_nextNumber 83 = .ok (.getfield 25, 3) ∧ decode cX6_nextNumber 86 = .ok (.aload_n 0, 1) ∧ decode cX6_nextNumber 87 = .ok (.getfield 22, 3) ∧ decode cX6_nextNumber 90 = .ok (.isub, 1) ∧ decode cX6_nextNumber 91 = .ok (.iconst 4, 1) := by decide +kernel
theorem e_X6_nextNumber_5 : decode cX6_nextNumber 92 = .ok (.if_icmp .le 7, 3) ∧ decode cX6_nextNumber 95 = .ok (.iconst 1, 1) ∧ decode cX6_nextNumber 96 = .ok (.goto 4, 3) ∧ decode cX6_nextNumber 99 = .ok (.iconst 3, 1) ∧ decode cX6_nextNumber 100 = .ok (.putfield 19, 3) ∧ decode cX6_nextNumber 103 = .ok (.return_, 1) := by decide +kernel
abbrev E_X6_nextNumber_5 (G : Kg) (σ : Kmem) (Q : Int → Kmem → Prop) : Prop := Ex G WX M_X6_nextNumber 0 0 0 5 [(0, vA G 3)] [] σ Q
theorem S_X6_nextNumber {G : Kg} {σ : Kmem} {Q : Int → Kmem → Prop}  (h : E_X6_nextNumber_5 G (kup σ 3 5 0) Q) : Run G WX M_X6_nextNumber 0 0 0 [vA G 3] σ Q := by
  refine Run.of (by decide +kernel) (by show (1 : Nat) ≤ 1; decide) ?_
  show Ex G WX M_X6_nextNumber 0 0 0 0 [(0, vA G 3)] [] σ Q
  refine R_aload_n e_X6_nextNumber_0.1 0 rfl ?_
  refine R_iconst e_X6_nextNumber_0.2.1 ?_
  refine R_putI 6 5 5 WX_ok e_X6_nextNumber_0.2.2.1 f_X6_28 kx_3 rfl rfl rfl ?_
  refine R_ls (ls2 := [(0, vA G 3)]) [0] rfl ?_
  exact h
theorem S_X6_nextNumber_5 {G : Kg} {σ : Kmem} {Q : Int → Kmem → Prop}  (h : (rI (σ 3 4)) ∧ (rI (σ 3 1)) ∧ ((σ 3 1 ≤ σ 3 4 → (rI ((σ 3 4) - (σ 3 3))) ∧ (((σ 3 4) - (σ 3 3) ≤ 4 → Q 0 (kup σ 3 2 3)) ∧ (4 < (σ 3 4) - (σ 3 3) → Q 0 (kup σ 3 2 1)))) ∧ (σ 3 4 < σ 3 1 → (0 ≤ σ 3 4 ∧ σ 3 4 < 900) ∧ (rI (σ 4 (σ 3 4))) ∧ ((σ 4 (σ 3 4) < 48 → (rI ((σ 3 4) - (σ 3 3))) ∧ (((σ 3 4) - (σ 3 3) ≤ 4 → Q 0 (kup σ 3 2 3)) ∧ (4 < (σ 3 4) - (σ 3 3) → Q 0 (kup σ 3 2 1)))) ∧ (48 ≤ σ 4 (σ 3 4) → (0 ≤ σ 3 4 ∧ σ 3 4 < 900) ∧ ((57 < σ 4 (σ 3 4) → (rI ((σ 3 4) - (σ 3 3))) ∧ (((σ 3 4) - (σ 3 3) ≤ 4 → Q 0 (kup σ 3 2 3)) ∧ (4 < (σ 3 4) - (σ 3 3) → Q 0 (kup σ 3 2 1)))) ∧ (σ 4 (σ 3 4) ≤ 57 → (0 ≤ σ 3 4 ∧ σ 3 4 < 900) ∧ E_X6_nextNumber_5 G (kup (kup σ 3 5 (((σ 3 5) * 10) + ((σ 4 (σ 3 4)) - 48))) 3 4 (((kup σ 3 5 (((σ 3 5) * 10) + ((σ 4 (σ 3 4)) - 48))) 3 4) + 1)) Q))))))) : E_X6_nextNumber_5 G σ Q := by
  refine R_aload_n e_X6_nextNumber_0.2.2.2.1 0 rfl ?_
  refine R_getI 6 4 4 e_X6_nextNumber_0.2.2.2.2.1 f_X6_25 kx_3 (fun _ _ => rfl) rfl ?_
  refine R_aload_n e_X6_nextNumber_0.2.2.2.2.2.1 0 rfl ?_
  refine R_getI 6 1 1 e_X6_nextNumber_0.2.2.2.2.2.2.1 f_X6_15 kx_3 (fun _ _ => rfl) rfl ?_
  obtain ⟨q1, h⟩ := h
  obtain ⟨q2, h⟩ := h
  refine R_icmp_ge 81 e_X6_nextNumber_0.2.2.2.2.2.2.2.1 (by decide) q1 q2 (fun q => ?_) (fun q => ?_)
  · replace h := h.1 q
    refine R_aload_n e_X6_nextNumber_4.2.2.2.1 0 rfl ?_
    refine R_aload_n e_X6_nextNumber_4.2.2.2.2.1 0 rfl ?_
    refine R_getI 6 4 4 e_X6_nextNumber_4.2.2.2.2.2.1 f_X6_25 kx_3 (fun _ _ => rfl) rfl ?_
    refine R_aload_n e_X6_nextNumber_4.2.2.2.2.2.2.1 0 rfl ?_
    refine R_getI 6 3 3 e_X6_nextNumber_4.2.2.2.2.2.2.2.1 f_X6_22 kx_3 (fun _ _ => rfl) rfl ?_
    refine R_isub e_X6_nextNumber_4.2.2.2.2.2.2.2.2.1 ?_
    refine R_iconst e_X6_nextNumber_4.2.2.2.2.2.2.2.2.2 ?_
    obtain ⟨q3, h⟩ := h
    refine R_icmp_le 99 e_X6_nextNumber_5.1 (by decide) q3 (by decide) (fun q => ?_) (fun q => ?_)
    · replace h := h.1 q
      refine R_iconst e_X6_nextNumber_5.2.2.2.1 ?_
      refine R_putI 6 2 2 WX_ok e_X6_nextNumber_5.2.2.2.2.1 f_X6_19 kx_3 rfl rfl rfl ?_
      exact R_return e_X6_nextNumber_5.2.2.2.2.2 rfl h
    · replace h := h.2 q
      refine R_iconst e_X6_nextNumber_5.2.1 ?_
      refine R_goto 100 e_X6_nextNumber_5.2.2.1 (by decide) ?_
      refine R_putI 6 2 2 WX_ok e_X6_nextNumber_5.2.2.2.2.1 f_X6_19 kx_3 rfl rfl rfl ?_
      exact R_return e_X6_nextNumber_5.2.2.2.2.2 rfl h
  · replace h := h.2 q
    refine R_aload_n e_X6_nextNumber_0.2.2.2.2.2.2.2.2.1 0 rfl ?_
    refine R_getA 6 0 4 e_X6_nextNumber_0.2.2.2.2.2.2.2.2.2 f_X6_9 kx_3 (fun _ _ => rfl) rx_3_0 (by decide) ?_
    refine R_aload_n e_X6_nextNumber_1.1 0 rfl ?_
    refine R_getI 6 4 4 e_X6_nextNumber_1.2.1 f_X6_25 kx_3 (fun _ _ => rfl) rfl ?_
    obtain ⟨q4, h⟩ := h
    refine R_bald 900 e_X6_nextNumber_1.2.2.1 kxa_4 q4 ?_
    refine R_bipush e_X6_nextNumber_1.2.2.2.1 (by decide) ?_
    obtain ⟨q5, h⟩ := h
    refine R_icmp_lt 81 e_X6_nextNumber_1.2.2.2.2.1 (by decide) q5 (by decide) (fun q => ?_) (fun q => ?_)
    · replace h := h.1 q
      refine R_aload_n e_X6_nextNumber_4.2.2.2.1 0 rfl ?_
      refine R_aload_n e_X6_nextNumber_4.2.2.2.2.1 0 rfl ?_
      refine R_getI 6 4 4 e_X6_nextNumber_4.2.2.2.2.2.1 f_X6_25 kx_3 (fun _ _ => rfl) rfl ?_
      refine R_aload_n e_X6_nextNumber_4.2.2.2.2.2.2.1 0 rfl ?_
      refine R_getI 6 3 3 e_X6_nextNumber_4.2.2.2.2.2.2.2.1 f_X6_22 kx_3 (fun _ _ => rfl) rfl ?_
      refine R_isub e_X6_nextNumber_4.2.2.2.2.2.2.2.2.1 ?_
      refine R_iconst e_X6_nextNumber_4.2.2.2.2.2.2.2.2.2 ?_
      obtain ⟨q6, h⟩ := h
      refine R_icmp_le 99 e_X6_nextNumber_5.1 (by decide) q6 (by decide) (fun q => ?_) (fun q => ?_)
      · replace h := h.1 q
        refine R_iconst e_X6_nextNumber_5.2.2.2.1 ?_
        refine R_putI 6 2 2 WX_ok e_X6_nextNumber_5.2.2.2.2.1 f_X6_19 kx_3 rfl rfl rfl ?_
        exact R_return e_X6_nextNumber_5.2.2.2.2.2 rfl h
      · replace h := h.2 q
        refine R_iconst e_X6_nextNumber_5.2.1 ?_
        refine R_goto 100 e_X6_nextNumber_5.2.2.1 (by decide) ?_
        refine R_putI 6 2 2 WX_ok e_X6_nextNumber_5.2.2.2.2.1 f_X6_19 kx_3 rfl rfl rfl ?_
        exact R_return e_X6_nextNumber_5.2.2.2.2.2 rfl h
    · replace h := h.2 q
      refine R_aload_n e_X6_nextNumber_1.2.2.2.2.2.1 0 rfl ?_
      refine R_getA 6 0 4 e_X6_nextNumber_1.2.2.2.2.2.2.1 f_X6_9 kx_3 (fun _ _ => rfl) rx_3_0 (by decide) ?_
      refine R_aload_n e_X6_nextNumber_1.2.2.2.2.2.2.2.1 0 rfl ?_
      refine R_getI 6 4 4 e_X6_nextNumber_1.2.2.2.2.2.2.2.2.1 f_X6_25 kx_3 (fun _ _ => rfl) rfl ?_
      obtain ⟨q7, h⟩ := h
      refine R_bald 900 e_X6_nextNumber_1.2.2.2.2.2.2.2.2.2 kxa_4 q7 ?_
      refine R_bipush e_X6_nextNumber_2.1 (by decide) ?_
      refine R_icmp_gt 81 e_X6_nextNumber_2.2.1 (by decide) q5 (by decide) (fun q => ?_) (fun q => ?_)
      · replace h := h.1 q
        refine R_aload_n e_X6_nextNumber_4.2.2.2.1 0 rfl ?_
        refine R_aload_n e_X6_nextNumber_4.2.2.2.2.1 0 rfl ?_
        refine R_getI 6 4 4 e_X6_nextNumber_4.2.2.2.2.2.1 f_X6_25 kx_3 (fun _ _ => rfl) rfl ?_
        refine R_aload_n e_X6_nextNumber_4.2.2.2.2.2.2.1 0 rfl ?_
        refine R_getI 6 3 3 e_X6_nextNumber_4.2.2.2.2.2.2.2.1 f_X6_22 kx_3 (fun _ _ => rfl) rfl ?_
        refine R_isub e_X6_nextNumber_4.2.2.2.2.2.2.2.2.1 ?_
        refine R_iconst e_X6_nextNumber_4.2.2.2.2.2.2.2.2.2 ?_
        obtain ⟨q8, h⟩ := h
        refine R_icmp_le 99 e_X6_nextNumber_5.1 (by decide) q8 (by decide) (fun q => ?_) (fun q => ?_)
        · replace h := h.1 q
          refine R_iconst e_X6_nextNumber_5.2.2.2.1 ?_
          refine R_putI 6 2 2 WX_ok e_X6_nextNumber_5.2.2.2.2.1 f_X6_19 kx_3 rfl rfl rfl ?_
          exact R_return e_X6_nextNumber_5.2.2.2.2.2 rfl h
        · replace h := h.2 q
          refine R_iconst e_X6_nextNumber_5.2.1 ?_
          refine R_goto 100 e_X6_nextNumber_5.2.2.1 (by decide) ?_
          refine R_putI 6 2 2 WX_ok e_X6_nextNumber_5.2.2.2.2.1 f_X6_19 kx_3 rfl rfl rfl ?_
          exact R_return e_X6_nextNumber_5.2.2.2.2.2 rfl h
      · replace h := h.2 q
        refine R_aload_n e_X6_nextNumber_2.2.2.1 0 rfl ?_
        refine R_aload_n e_X6_nextNumber_2.2.2.2.1 0 rfl ?_
        refine R_getI 6 5 5 e_X6_nextNumber_2.2.2.2.2.1 f_X6_28 kx_3 (fun _ _ => rfl) rfl ?_
        refine R_bipush e_X6_nextNumber_2.2.2.2.2.2.1 (by decide) ?_
        refine R_imul e_X6_nextNumber_2.2.2.2.2.2.2.1 ?_
        refine R_aload_n e_X6_nextNumber_2.2.2.2.2.2.2.2.1 0 rfl ?_
        refine R_getA 6 0 4 e_X6_nextNumber_2.2.2.2.2.2.2.2.2.1 f_X6_9 kx_3 (fun _ _ => rfl) rx_3_0 (by decide) ?_
        refine R_aload_n e_X6_nextNumber_2.2.2.2.2.2.2.2.2.2 0 rfl ?_
        refine R_getI 6 4 4 e_X6_nextNumber_3.1 f_X6_25 kx_3 (fun _ _ => rfl) rfl ?_
        obtain ⟨q9, h⟩ := h
        refine R_bald 900 e_X6_nextNumber_3.2.1 kxa_4 q9 ?_
        refine R_bipush e_X6_nextNumber_3.2.2.1 (by decide) ?_
        refine R_isub e_X6_nextNumber_3.2.2.2.1 ?_
        refine R_iadd e_X6_nextNumber_3.2.2.2.2.1 ?_
        refine R_putI 6 5 5 WX_ok e_X6_nextNumber_3.2.2.2.2.2.1 f_X6_28 kx_3 rfl rfl rfl ?_
        refine R_aload_n e_X6_nextNumber_3.2.2.2.2.2.2.1 0 rfl ?_
        refine R_dup e_X6_nextNumber_3.2.2.2.2.2.2.2.1 rfl ?_
        refine R_getI 6 4 4 e_X6_nextNumber_3.2.2.2.2.2.2.2.2.1 f_X6_25 kx_3 (fun _ _ => rfl) rfl ?_
        refine R_iconst e_X6_nextNumber_3.2.2.2.2.2.2.2.2.2 ?_
        refine R_iadd e_X6_nextNumber_4.1 ?_
        refine R_putI 6 4 4 WX_ok e_X6_nextNumber_4.2.1 f_X6_25 kx_3 rfl rfl rfl ?_
        refine R_goto 5 e_X6_nextNumber_4.2.2.1 (by decide) ?_
        refine R_ls (ls2 := [(0, vA G 3)]) [0] rfl ?_
        exact h
/-! KiteLand$Scanner.isSign(I)Z -/
theorem e_X6_isSign_0 : decode cX6_isSign 0 = .ok (.iload_n 1, 1) ∧ decode cX6_isSign 1 = .ok (.bipush 59, 2) ∧ decode cX6_isSign 3 = .ok (.if_icmp .eq 21, 3) ∧ decode cX6_isSign 6 = .ok (.iload_n 1, 1) ∧ decode cX6_isSign 7 = .ok (.bipush 60, 2) ∧ decode cX6_isSign 9 = .ok (.if_icmp .eq 15, 3) ∧ decode cX6_isSign 12 = .ok (.iload_n 1, 1) ∧ decode cX6_isSign 13 = .ok (.bipush 62, 2) ∧ decode cX6_isSign 15 = .ok (.if_icmp .eq 9, 3) ∧ decode cX6_isSign 18 = .ok (.iload_n 1, 1) := by decide +kernel
theorem e_X6_isSign_1 : decode cX6_isSign 19 = .ok (.bipush 61, 2) ∧ decode cX6_isSign 21 = .ok (.if_icmp .ne 7, 3) ∧ decode cX6_isSign 24 = .ok (.iconst 1, 1) ∧ decode cX6_isSign 25 = .ok (.goto 4, 3) ∧ decode cX6_isSign 28 = .ok (.iconst 0, 1) ∧ decode cX6_isSign 29 = .ok (.ireturn, 1) := by decide +kernel
theorem S_X6_isSign {G : Kg} {σ : Kmem} {Q : Int → Kmem → Prop} {l1 : Int}  (h : (rI l1) ∧ ((l1 = 59 → Q 1 σ) ∧ (l1 ≠ 59 → ((l1 = 60 → Q 1 σ) ∧ (l1 ≠ 60 → ((l1 = 62 → Q 1 σ) ∧ (l1 ≠ 62 → ((l1 ≠ 61 → Q 0 σ) ∧ (l1 = 61 → Q 1 σ))))))))) : Run G WX M_X6_isSign 0 0 0 [vA G 3, vI l1] σ Q := by
  refine Run.of (by decide +kernel) (by show (2 : Nat) ≤ 2; decide) ?_
  show Ex G WX M_X6_isSign 0 0 0 0 [(0, vA G 3), (1, vI l1)] [] σ Q
  refine R_iload_n e_X6_isSign_0.1 1 rfl ?_
  refine R_bipush e_X6_isSign_0.2.1 (by decide) ?_
  obtain ⟨q1, h⟩ := h
  refine R_icmp_eq 24 e_X6_isSign_0.2.2.1 (by decide) q1 (by decide) (fun q => ?_) (fun q => ?_)
  · replace h := h.1 q
    refine R_iconst e_X6_isSign_1.2.2.1 ?_
    refine R_goto 29 e_X6_isSign_1.2.2.2.1 (by decide) ?_
    exact R_zreturn e_X6_isSign_1.2.2.2.2.2 rfl (Or.inr rfl) h
  · replace h := h.2 q
    refine R_iload_n e_X6_isSign_0.2.2.2.1 1 rfl ?_
    refine R_bipush e_X6_isSign_0.2.2.2.2.1 (by decide) ?_
    refine R_icmp_eq 24 e_X6_isSign_0.2.2.2.2.2.1 (by decide) q1 (by decide) (fun q => ?_) (fun q => ?_)
    · replace h := h.1 q
      refine R_iconst e_X6_isSign_1.2.2.1 ?_
      refine R_goto 29 e_X6_isSign_1.2.2.2.1 (by decide) ?_
      exact R_zreturn e_X6_isSign_1.2.2.2.2.2 rfl (Or.inr rfl) h
    · replace h := h.2 q
      refine R_iload_n e_X6_isSign_0.2.2.2.2.2.2.1 1 rfl ?_
      refine R_bipush e_X6_isSign_0.2.2.2.2.2.2.2.1 (by decide) ?_
      refine R_icmp_eq 24 e_X6_isSign_0.2.2.2.2.2.2.2.2.1 (by decide) q1 (by decide) (fun q => ?_) (fun q => ?_)
      · replace h := h.1 q
        refine R_iconst e_X6_isSign_1.2.2.1 ?_
        refine R_goto 29 e_X6_isSign_1.2.2.2.1 (by decide) ?_
        exact R_zreturn e_X6_isSign_1.2.2.2.2.2 rfl (Or.inr rfl) h
      · replace h := h.2 q
        refine R_iload_n e_X6_isSign_0.2.2.2.2.2.2.2.2.2 1 rfl ?_
        refine R_bipush e_X6_isSign_1.1 (by decide) ?_
        refine R_icmp_ne 28 e_X6_isSign_1.2.1 (by decide) q1 (by decide) (fun q => ?_) (fun q => ?_)
        · replace h := h.1 q
          refine R_iconst e_X6_isSign_1.2.2.2.2.1 ?_
          exact R_zreturn e_X6_isSign_1.2.2.2.2.2 rfl (Or.inl rfl) h
        · replace h := h.2 q
          refine R_iconst e_X6_isSign_1.2.2.1 ?_
          refine R_goto 29 e_X6_isSign_1.2.2.2.1 (by decide) ?_
          exact R_zreturn e_X6_isSign_1.2.2.2.2.2 rfl (Or.inr rfl) h
/-! KiteLand$Scanner.isAtEnd()Z -/
theorem e_X6_isAtEnd_0 : decode cX6_isAtEnd 0 = .ok (.aload_n 0, 1) ∧ decode cX6_isAtEnd 1 = .ok (.getfield 19, 3) ∧ decode cX6_isAtEnd 4 = .ok (.ifCond .ne 7, 3) ∧ decode cX6_isAtEnd 7 = .ok (.iconst 1, 1) ∧ decode cX6_isAtEnd 8 = .ok (.goto 4, 3) ∧ decode cX6_isAtEnd 11 = .ok (.iconst 0, 1) ∧ decode cX6_isAtEnd 12 = .ok (.ireturn, 1) := by decide +kernel
theorem S_X6_isAtEnd {G : Kg} {σ : Kmem} {Q : Int → Kmem → Prop}  (h : (rI (σ 3 2)) ∧ ((σ 3 2 ≠ 0 → Q 0 σ) ∧ (σ 3 2 = 0 → Q 1 σ))) : Run G WX M_X6_isAtEnd 0 0 0 [vA G 3] σ Q := by
  refine Run.of (by decide +kernel) (by show (1 : Nat) ≤ 1; decide) ?_
  show Ex G WX M_X6_isAtEnd 0 0 0 0 [(0, vA G 3)] [] σ Q
  refine R_aload_n e_X6_isAtEnd_0.1 0 rfl ?_
  refine R_getI 6 2 2 e_X6_isAtEnd_0.2.1 f_X6_19 kx_3 (fun _ _ => rfl) rfl ?_
  obtain ⟨q1, h⟩ := h
  refine R_if_ne 11 e_X6_isAtEnd_0.2.2.1 (by decide) q1  (fun q => ?_) (fun q => ?_)
  · replace h := h.1 q
    refine R_iconst e_X6_isAtEnd_0.2.2.2.2.2.1 ?_
    exact R_zreturn e_X6_isAtEnd_0.2.2.2.2.2.2 rfl (Or.inl rfl) h
  · replace h := h.2 q
    refine R_iconst e_X6_isAtEnd_0.2.2.2.1 ?_
    refine R_goto 12 e_X6_isAtEnd_0.2.2.2.2.1 (by decide) ?_
    exact R_zreturn e_X6_isAtEnd_0.2.2.2.2.2.2 rfl (Or.inr rfl) h
/-! KiteLand$Scanner.isWord(Ljava/lang/String;)Z -/
theorem e_X6_isWord_0 : decode cX6_isWord 0 = .ok (.aload_n 0, 1) ∧ decode cX6_isWord 1 = .ok (.getfield 19, 3) ∧ decode cX6_isWord 4 = .ok (.iconst 2, 1) ∧ decode cX6_isWord 5 = .ok (.if_icmp .ne 19, 3) ∧ decode cX6_isWord 8 = .ok (.aload_n 1, 1) ∧ decode cX6_isWord 9 = .ok (.invokevirtual 65, 3) ∧ decode cX6_isWord 12 = .ok (.aload_n 0, 1) ∧ decode cX6_isWord 13 = .ok (.getfield 25, 3) ∧ decode cX6_isWord 16 = .ok (.aload_n 0, 1) ∧ decode cX6_isWord 17 = .ok (.getfield 22, 3) := by decide +kernel
theorem e_X6_isWord_1 : decode cX6_isWord 20 = .ok (.isub, 1) ∧ decode cX6_isWord 21 = .ok (.if_icmp .eq 5, 3) ∧ decode cX6_isWord 24 = .ok (.iconst 0, 1) ∧ decode cX6_isWord 25 = .ok (.ireturn, 1) ∧ decode cX6_isWord 26 = .ok (.iconst 0, 1) ∧ decode cX6_isWord 27 = .ok (.istore_n 2, 1) ∧ decode cX6_isWord 28 = .ok (.iload_n 2, 1) ∧ decode cX6_isWord 29 = .ok (.aload_n 1, 1) ∧ decode cX6_isWord 30 = .ok (.invokevirtual 65, 3) ∧ decode cX6_isWord 33 = .ok (.if_icmp .ge 30, 3) := by decide +kernel
theorem e_X6_isWord_2 : decode cX6_isWord 36 = .ok (.aload_n 1, 1) ∧ decode cX6_isWord 37 = .ok (.iload_n 2, 1) ∧ decode cX6_isWord 38 = .ok (.invokevirtual 70, 3) ∧ decode cX6_isWord 41 = .ok (.aload_n 0, 1) ∧ decode cX6_isWord 42 = .ok (.getfield 9, 3) ∧ decode cX6_isWord 45 = .ok (.aload_n 0, 1) ∧ decode cX6_isWord 46 = .ok (.getfield 22, 3) ∧ decode cX6_isWord 49 = .ok (.iload_n 2, 1) ∧ decode cX6_isWord 50 = .ok (.iadd, 1) ∧ decode cX6_isWord 51 = .ok (.baload, 1) := by decide +kernel
theorem e_X6_isWord_3 : decode cX6_isWord 52 = .ok (.if_icmp .eq 5, 3) ∧ decode cX6_isWord 55 = .ok (.iconst 0, 1) ∧ decode cX6_isWord 56 = .ok (.ireturn, 1) ∧ decode cX6_isWord 57 = .ok (.iinc 2 1, 3) ∧ decode cX6_isWord 60 = .ok (.goto (-32), 3) ∧ decode cX6_isWord 63 = .ok (.iconst 1, 1) ∧ decode cX6_isWord 64 = .ok (.ireturn, 1) := by decide +kernel
abbrev E_X6_isWord_28 (G : Kg) (i : Nat) (l2 : Int) (σ : Kmem) (Q : Int → Kmem → Prop) : Prop := Ex G WX M_X6_isWord 4 0 0 28 [(0, vA G 3), (1, vA G (-((10 + i : Nat) : Int))), (2, vI l2)] [] σ Q
theorem S_X6_isWord {G : Kg} {σ : Kmem} {Q : Int → Kmem → Prop} {i : Nat} {si : String × Nat × String × List Int32} (hi : kStrs[i]? = some si)  (h : (rI (σ 3 2)) ∧ ((σ 3 2 ≠ 2 → Q 0 σ) ∧ (σ 3 2 = 2 → (rI (kslen i)) ∧ (rI ((σ 3 4) - (σ 3 3))) ∧ ((kslen i = (σ 3 4) - (σ 3 3) → E_X6_isWord_28 G i 0 σ Q) ∧ (kslen i ≠ (σ 3 4) - (σ 3 3) → Q 0 σ))))) : Run G WX M_X6_isWord 4 0 0 [vA G 3, vA G (-((10 + i : Nat) : Int))] σ Q := by
  refine Run.of (by decide +kernel) (by show (2 : Nat) ≤ 3; decide) ?_
  show Ex G WX M_X6_isWord 4 0 0 0 [(0, vA G 3), (1, vA G (-((10 + i : Nat) : Int)))] [] σ Q
  refine R_aload_n e_X6_isWord_0.1 0 rfl ?_
  refine R_getI 6 2 2 e_X6_isWord_0.2.1 f_X6_19 kx_3 (fun _ _ => rfl) rfl ?_
  refine R_iconst e_X6_isWord_0.2.2.1 ?_
  obtain ⟨q1, h⟩ := h
  refine R_icmp_ne 24 e_X6_isWord_0.2.2.2.1 (by decide) q1 (by decide) (fun q => ?_) (fun q => ?_)
  · replace h := h.1 q
    refine R_iconst e_X6_isWord_1.2.2.1 ?_
    exact R_zreturn e_X6_isWord_1.2.2.2.1 rfl (Or.inl rfl) h
  · replace h := h.2 q
    refine R_aload_n e_X6_isWord_0.2.2.2.2.1 1 rfl ?_
    refine R_slen (i := i) (kStrs_at hi) l_X6_65 e_X6_isWord_0.2.2.2.2.2.1 (by decide) rfl (by show (0 : Nat) ≤ 8; decide) ?_
    refine R_aload_n e_X6_isWord_0.2.2.2.2.2.2.1 0 rfl ?_
    refine R_getI 6 4 4 e_X6_isWord_0.2.2.2.2.2.2.2.1 f_X6_25 kx_3 (fun _ _ => rfl) rfl ?_
    refine R_aload_n e_X6_isWord_0.2.2.2.2.2.2.2.2.1 0 rfl ?_
    refine R_getI 6 3 3 e_X6_isWord_0.2.2.2.2.2.2.2.2.2 f_X6_22 kx_3 (fun _ _ => rfl) rfl ?_
    refine R_isub e_X6_isWord_1.1 ?_
    obtain ⟨q2, h⟩ := h
    obtain ⟨q3, h⟩ := h
    refine R_icmp_eq 26 e_X6_isWord_1.2.1 (by decide) q2 q3 (fun q => ?_) (fun q => ?_)
    · replace h := h.1 q
      refine R_iconst e_X6_isWord_1.2.2.2.2.1 ?_
      refine R_istore_n (ls2 := [(2, vI 0), (0, vA G 3), (1, vA G (-((10 + i : Nat) : Int)))]) e_X6_isWord_1.2.2.2.2.2.1 (by decide) rfl ?_
      refine R_ls (ls2 := [(0, vA G 3), (1, vA G (-((10 + i : Nat) : Int))), (2, vI 0)]) [1, 2, 0] rfl ?_
      exact h
    · replace h := h.2 q
      refine R_iconst e_X6_isWord_1.2.2.1 ?_
      exact R_zreturn e_X6_isWord_1.2.2.2.1 rfl (Or.inl rfl) h
theorem S_X6_isWord_28 {G : Kg} {σ : Kmem} {Q : Int → Kmem → Prop} {i : Nat} {si : String × Nat × String × List Int32} (hi : kStrs[i]? = some si) {l2 : Int}  (h : (rI l2) ∧ (rI (kslen i)) ∧ ((kslen i ≤ l2 → Q 1 σ) ∧ (l2 < kslen i → (0 ≤ l2 ∧ l2 < kslen i) ∧ (0 ≤ (σ 3 3) + l2 ∧ (σ 3 3) + l2 < 900) ∧ (rI (ksat i l2)) ∧ (rI (σ 4 ((σ 3 3) + l2))) ∧ ((ksat i l2 = σ 4 ((σ 3 3) + l2) → E_X6_isWord_28 G i (l2 + 1) σ Q) ∧ (ksat i l2 ≠ σ 4 ((σ 3 3) + l2) → Q 0 σ))))) : E_X6_isWord_28 G i l2 σ Q := by
  refine R_iload_n e_X6_isWord_1.2.2.2.2.2.2.1 2 rfl ?_
  refine R_aload_n e_X6_isWord_1.2.2.2.2.2.2.2.1 1 rfl ?_
  refine R_slen (i := i) (kStrs_at hi) l_X6_65 e_X6_isWord_1.2.2.2.2.2.2.2.2.1 (by decide) rfl (by show (1 : Nat) ≤ 8; decide) ?_
  obtain ⟨q4, h⟩ := h
  obtain ⟨q5, h⟩ := h
  refine R_icmp_ge 63 e_X6_isWord_1.2.2.2.2.2.2.2.2.2 (by decide) q4 q5 (fun q => ?_) (fun q => ?_)
  · replace h := h.1 q
    refine R_iconst e_X6_isWord_3.2.2.2.2.2.1 ?_
    exact R_zreturn e_X6_isWord_3.2.2.2.2.2.2 rfl (Or.inr rfl) h
  · replace h := h.2 q
    refine R_aload_n e_X6_isWord_2.1 1 rfl ?_
    refine R_iload_n e_X6_isWord_2.2.1 2 rfl ?_
    obtain ⟨q6, h⟩ := h
    refine R_sat (i := i) (kStrs_at hi) l_X6_70 e_X6_isWord_2.2.2.1 (by decide) q6 rfl (by show (0 : Nat) ≤ 8; decide) ?_
    refine R_aload_n e_X6_isWord_2.2.2.2.1 0 rfl ?_
    refine R_getA 6 0 4 e_X6_isWord_2.2.2.2.2.1 f_X6_9 kx_3 (fun _ _ => rfl) rx_3_0 (by decide) ?_
    refine R_aload_n e_X6_isWord_2.2.2.2.2.2.1 0 rfl ?_
    refine R_getI 6 3 3 e_X6_isWord_2.2.2.2.2.2.2.1 f_X6_22 kx_3 (fun _ _ => rfl) rfl ?_
    refine R_iload_n e_X6_isWord_2.2.2.2.2.2.2.2.1 2 rfl ?_
    refine R_iadd e_X6_isWord_2.2.2.2.2.2.2.2.2.1 ?_
    obtain ⟨q7, h⟩ := h
    refine R_bald 900 e_X6_isWord_2.2.2.2.2.2.2.2.2.2 kxa_4 q7 ?_
    obtain ⟨q8, h⟩ := h
    obtain ⟨q9, h⟩ := h
    refine R_icmp_eq 57 e_X6_isWord_3.1 (by decide) q8 q9 (fun q => ?_) (fun q => ?_)
    · replace h := h.1 q
      refine R_iinc (ls2 := [(2, vI (l2 + 1)), (0, vA G 3), (1, vA G (-((10 + i : Nat) : Int)))]) e_X6_isWord_3.2.2.2.1 2 rfl (by decide) rfl ?_
      refine R_goto 28 e_X6_isWord_3.2.2.2.2.1 (by decide) ?_
      refine R_ls (ls2 := [(0, vA G 3), (1, vA G (-((10 + i : Nat) : Int))), (2, vI (l2 + 1))]) [1, 2, 0] rfl ?_
      exact h
    · replace h := h.2 q
      refine R_iconst e_X6_isWord_3.2.1 ?_
      exact R_zreturn e_X6_isWord_3.2.2.1 rfl (Or.inl rfl) h
/-! KiteLand$Scanner.isSignOf(C)Z -/
theorem e_X6_isSignOf_0 : decode cX6_isSignOf 0 = .ok (.aload_n 0, 1) ∧ decode cX6_isSignOf 1 = .ok (.getfield 19, 3) ∧ decode cX6_isSignOf 4 = .ok (.iconst 4, 1) ∧ decode cX6_isSignOf 5 = .ok (.if_icmp .ne 20, 3) ∧ decode cX6_isSignOf 8 = .ok (.aload_n 0, 1) ∧ decode cX6_isSignOf 9 = .ok (.getfield 9, 3) ∧ decode cX6_isSignOf 12 = .ok (.aload_n 0, 1) ∧ decode cX6_isSignOf 13 = .ok (.getfield 22, 3) ∧ decode cX6_isSignOf 16 = .ok (.baload, 1) ∧ decode cX6_isSignOf 17 = .ok (.iload_n 1, 1) := by decide +kernel
theorem e_X6_isSignOf_1 : decode cX6_isSignOf 18 = .ok (.if_icmp .ne 7, 3) ∧ decode cX6_isSignOf 21 = .ok (.iconst 1, 1) ∧ decode cX6_isSignOf 22 = .ok (.goto 4, 3) ∧ decode cX6_isSignOf 25 = .ok (.iconst 0, 1) ∧ decode cX6_isSignOf 26 = .ok (.ireturn, 1) := by decide +kernel
theorem S_X6_isSignOf {G : Kg} {σ : Kmem} {Q : Int → Kmem → Prop} {l1 : Int}  (h : (rI (σ 3 2)) ∧ ((σ 3 2 ≠ 4 → Q 0 σ) ∧ (σ 3 2 = 4 → (0 ≤ σ 3 3 ∧ σ 3 3 < 900) ∧ (rI (σ 4 (σ 3 3))) ∧ (rI l1) ∧ ((σ 4 (σ 3 3) ≠ l1 → Q 0 σ) ∧ (σ 4 (σ 3 3) = l1 → Q 1 σ))))) : Run G WX M_X6_isSignOf 0 0 0 [vA G 3, vI l1] σ Q := by
  refine Run.of (by decide +kernel) (by show (2 : Nat) ≤ 2; decide) ?_
  show Ex G WX M_X6_isSignOf 0 0 0 0 [(0, vA G 3), (1, vI l1)] [] σ Q
  refine R_aload_n e_X6_isSignOf_0.1 0 rfl ?_
  refine R_getI 6 2 2 e_X6_isSignOf_0.2.1 f_X6_19 kx_3 (fun _ _ => rfl) rfl ?_
  refine R_iconst e_X6_isSignOf_0.2.2.1 ?_
  obtain ⟨q1, h⟩ := h
  refine R_icmp_ne 25 e_X6_isSignOf_0.2.2.2.1 (by decide) q1 (by decide) (fun q => ?_) (fun q => ?_)
  · replace h := h.1 q
    refine R_iconst e_X6_isSignOf_1.2.2.2.1 ?_
    exact R_zreturn e_X6_isSignOf_1.2.2.2.2 rfl (Or.inl rfl) h
  · replace h := h.2 q
    refine R_aload_n e_X6_isSignOf_0.2.2.2.2.1 0 rfl ?_
    refine R_getA 6 0 4 e_X6_isSignOf_0.2.2.2.2.2.1 f_X6_9 kx_3 (fun _ _ => rfl) rx_3_0 (by decide) ?_
    refine R_aload_n e_X6_isSignOf_0.2.2.2.2.2.2.1 0 rfl ?_
    refine R_getI 6 3 3 e_X6_isSignOf_0.2.2.2.2.2.2.2.1 f_X6_22 kx_3 (fun _ _ => rfl) rfl ?_
    obtain ⟨q2, h⟩ := h
    refine R_bald 900 e_X6_isSignOf_0.2.2.2.2.2.2.2.2.1 kxa_4 q2 ?_
    refine R_iload_n e_X6_isSignOf_0.2.2.2.2.2.2.2.2.2 1 rfl ?_
    obtain ⟨q3, h⟩ := h
    obtain ⟨q4, h⟩ := h
    refine R_icmp_ne 25 e_X6_isSignOf_1.1 (by decide) q3 q4 (fun q => ?_) (fun q => ?_)
    · replace h := h.1 q
      refine R_iconst e_X6_isSignOf_1.2.2.2.1 ?_
      exact R_zreturn e_X6_isSignOf_1.2.2.2.2 rfl (Or.inl rfl) h
    · replace h := h.2 q
      refine R_iconst e_X6_isSignOf_1.2.1 ?_
      refine R_goto 26 e_X6_isSignOf_1.2.2.1 (by decide) ?_
      exact R_zreturn e_X6_isSignOf_1.2.2.2.2 rfl (Or.inr rfl) h
/-! KiteLand$Scanner.isReserved()Z -/
theorem e_X6_isReserved_0 : decode cX6_isReserved 0 = .ok (.lconst 0, 1) ∧ decode cX6_isReserved 1 = .ok (.lstore_n 1, 1) ∧ decode cX6_isReserved 2 = .ok (.iconst 0, 1) ∧ decode cX6_isReserved 3 = .ok (.istore_n 3, 1) ∧ decode cX6_isReserved 4 = .ok (.iload_n 3, 1) ∧ decode cX6_isReserved 5 = .ok (.ldc 74, 2) ∧ decode cX6_isReserved 7 = .ok (.invokevirtual 65, 3) ∧ decode cX6_isReserved 10 = .ok (.if_icmp .ge 55, 3) ∧ decode cX6_isReserved 13 = .ok (.ldc 74, 2) ∧ decode cX6_isReserved 15 = .ok (.iload_n 3, 1) := by decide +kernel
theorem e_X6_isReserved_1 : decode cX6_isReserved 16 = .ok (.invokevirtual 70, 3) ∧ decode cX6_isReserved 19 = .ok (.bipush 32, 2) ∧ decode cX6_isReserved 21 = .ok (.if_icmp .eq 25, 3) ∧ decode cX6_isReserved 24 = .ok (.lload_n 1, 1) ∧ decode cX6_isReserved 25 = .ok (.ldc2_w 63, 3) ∧ decode cX6_isReserved 28 = .ok (.lmul, 1) ∧ decode cX6_isReserved 29 = .ok (.ldc 74, 2) ∧ decode cX6_isReserved 31 = .ok (.iload_n 3, 1) ∧ decode cX6_isReserved 32 = .ok (.invokevirtual 70, 3) ∧ decode cX6_isReserved 35 = .ok (.bipush 97, 2) := by decide +kernel
theorem e_X6_isReserved_2 : decode cX6_isReserved 37 = .ok (.isub, 1) ∧ decode cX6_isReserved 38 = .ok (.iconst 1, 1) ∧ decode cX6_isReserved 39 = .ok (.iadd, 1) ∧ decode cX6_isReserved 40 = .ok (.i2l, 1) ∧ decode cX6_isReserved 41 = .ok (.ladd, 1) ∧ decode cX6_isReserved 42 = .ok (.lstore_n 1, 1) ∧ decode cX6_isReserved 43 = .ok (.goto 16, 3) ∧ decode cX6_isReserved 46 = .ok (.lload_n 1, 1) ∧ decode cX6_isReserved 47 = .ok (.aload_n 0, 1) ∧ decode cX6_isReserved 48 = .ok (.getfield 31, 3) := by decide +kernel
theorem e_X6_isReserved_3 : decode cX6_isReserved 51 = .ok (.lcmp, 1) ∧ decode cX6_isReserved 52 = .ok (.ifCond .ne 5, 3) ∧ decode cX6_isReserved 55 = .ok (.iconst 1, 1) ∧ decode cX6_isReserved 56 = .ok (.ireturn, 1) ∧ decode cX6_isReserved 57 = .ok (.lconst 0, 1) ∧ decode cX6_isReserved 58 = .ok (.lstore_n 1, 1) ∧ decode cX6_isReserved 59 = .ok (.iinc 3 1, 3) ∧ decode cX6_isReserved 62 = .ok (.goto (-58), 3) ∧ decode cX6_isReserved 65 = .ok (.iconst 0, 1) ∧ decode cX6_isReserved 66 = .ok (.ireturn, 1) := by decide +kernel
abbrev E_X6_isReserved_4 (G : Kg) (l1 l3 : Int) (σ : Kmem) (Q : Int → Kmem → Prop) : Prop := Ex G WX M_X6_isReserved 4 0 0 4 [(0, vA G 3), (1, vL l1), (3, vI l3)] [] σ Q
theorem S_X6_isReserved {G : Kg} {σ : Kmem} {Q : Int → Kmem → Prop}  (h : E_X6_isReserved_4 G 0 0 σ Q) : Run G WX M_X6_isReserved 4 0 0 [vA G 3] σ Q := by
  refine Run.of (by decide +kernel) (by show (1 : Nat) ≤ 4; decide) ?_
  show Ex G WX M_X6_isReserved 4 0 0 0 [(0, vA G 3)] [] σ Q
  refine R_lconst 0 e_X6_isReserved_0.1 (by decide) ?_
  refine R_lstore_n (ls2 := [(1, vL 0), (0, vA G 3)]) e_X6_isReserved_0.2.1 (by decide) rfl ?_
  refine R_iconst e_X6_isReserved_0.2.2.1 ?_
  refine R_istore_n (ls2 := [(3, vI 0), (1, vL 0), (0, vA G 3)]) e_X6_isReserved_0.2.2.2.1 (by decide) rfl ?_
  refine R_ls (ls2 := [(0, vA G 3), (1, vL 0), (3, vI 0)]) [2, 1, 0] rfl ?_
  exact h
theorem S_X6_isReserved_4 {G : Kg} {σ : Kmem} {Q : Int → Kmem → Prop} {l1 l3 : Int}  (h : (rI l3) ∧ (rI (kslen 15)) ∧ ((kslen 15 ≤ l3 → Q 0 σ) ∧ (l3 < kslen 15 → (0 ≤ l3 ∧ l3 < kslen 15) ∧ (rI (ksat 15 l3)) ∧ ((ksat 15 l3 = 32 → (rL l1) ∧ (rL (σ 3 6)) ∧ ((l1 ≠ σ 3 6 → E_X6_isReserved_4 G 0 (l3 + 1) σ Q) ∧ (l1 = σ 3 6 → Q 1 σ))) ∧ (ksat 15 l3 ≠ 32 → (0 ≤ l3 ∧ l3 < kslen 15) ∧ (rI (((ksat 15 l3) - 97) + 1)) ∧ E_X6_isReserved_4 G ((l1 * 32) + (((ksat 15 l3) - 97) + 1)) (l3 + 1) σ Q))))) : E_X6_isReserved_4 G l1 l3 σ Q := by
  refine R_iload_n e_X6_isReserved_0.2.2.2.2.1 2 rfl ?_
  refine R_ldcS (i := 15) (-25) e_X6_isReserved_0.2.2.2.2.2.1 rfl rfl ?_
  refine R_slen (i := 15) (rfl : kStrs[15]? = some (kStrD 15)) l_X6_65 e_X6_isReserved_0.2.2.2.2.2.2.1 (by decide) rfl (by show (1 : Nat) ≤ 8; decide) ?_
  obtain ⟨q1, h⟩ := h
  obtain ⟨q2, h⟩ := h
  refine R_icmp_ge 65 e_X6_isReserved_0.2.2.2.2.2.2.2.1 (by decide) q1 q2 (fun q => ?_) (fun q => ?_)
  · replace h := h.1 q
    refine R_iconst e_X6_isReserved_3.2.2.2.2.2.2.2.2.1 ?_
    exact R_zreturn e_X6_isReserved_3.2.2.2.2.2.2.2.2.2 rfl (Or.inl rfl) h
  · replace h := h.2 q
    refine R_ldcS (i := 15) (-25) e_X6_isReserved_0.2.2.2.2.2.2.2.2.1 rfl rfl ?_
    refine R_iload_n e_X6_isReserved_0.2.2.2.2.2.2.2.2.2 2 rfl ?_
    obtain ⟨q3, h⟩ := h
    refine R_sat (i := 15) (rfl : kStrs[15]? = some (kStrD 15)) l_X6_70 e_X6_isReserved_1.1 (by decide) q3 rfl (by show (0 : Nat) ≤ 8; decide) ?_
    refine R_bipush e_X6_isReserved_1.2.1 (by decide) ?_
    obtain ⟨q4, h⟩ := h
    refine R_icmp_eq 46 e_X6_isReserved_1.2.2.1 (by decide) q4 (by decide) (fun q => ?_) (fun q => ?_)
    · replace h := h.1 q
      refine R_lload_n e_X6_isReserved_2.2.2.2.2.2.2.2.1 1 rfl ?_
      refine R_aload_n e_X6_isReserved_2.2.2.2.2.2.2.2.2.1 0 rfl ?_
      refine R_getL 6 6 6 e_X6_isReserved_2.2.2.2.2.2.2.2.2.2 f_X6_31 kx_3 (fun _ _ => rfl) rfl ?_
      obtain ⟨q5, h⟩ := h
      obtain ⟨q6, h⟩ := h
      refine R_lcmp e_X6_isReserved_3.1 q5 q6 ?_
      refine R_if_ne 57 e_X6_isReserved_3.2.1 (by decide) (kcmp_r _ _) (fun q => ?_) (fun q => ?_)
      · replace h := h.1 (kcmp_ne_t.mp q)
        refine R_lconst 0 e_X6_isReserved_3.2.2.2.2.1 (by decide) ?_
        refine R_lstore_n (ls2 := [(1, vL 0), (0, vA G 3), (3, vI l3)]) e_X6_isReserved_3.2.2.2.2.2.1 (by decide) rfl ?_
        refine R_iinc (ls2 := [(3, vI (l3 + 1)), (1, vL 0), (0, vA G 3)]) e_X6_isReserved_3.2.2.2.2.2.2.1 2 rfl (by decide) rfl ?_
        refine R_goto 4 e_X6_isReserved_3.2.2.2.2.2.2.2.1 (by decide) ?_
        refine R_ls (ls2 := [(0, vA G 3), (1, vL 0), (3, vI (l3 + 1))]) [2, 1, 0] rfl ?_
        exact h
      · replace h := h.2 (kcmp_ne_f.mp q)
        refine R_iconst e_X6_isReserved_3.2.2.1 ?_
        exact R_zreturn e_X6_isReserved_3.2.2.2.1 rfl (Or.inr rfl) h
    · replace h := h.2 q
      refine R_lload_n e_X6_isReserved_1.2.2.2.1 1 rfl ?_
      refine R_ldc2 (32) k_X6_63 e_X6_isReserved_1.2.2.2.2.1 ?_
      refine R_lmul e_X6_isReserved_1.2.2.2.2.2.1 ?_
      refine R_ldcS (i := 15) (-25) e_X6_isReserved_1.2.2.2.2.2.2.1 rfl rfl ?_
      refine R_iload_n e_X6_isReserved_1.2.2.2.2.2.2.2.1 2 rfl ?_
      obtain ⟨q7, h⟩ := h
      refine R_sat (i := 15) (rfl : kStrs[15]? = some (kStrD 15)) l_X6_70 e_X6_isReserved_1.2.2.2.2.2.2.2.2.1 (by decide) q7 rfl (by show (2 : Nat) ≤ 8; decide) ?_
      refine R_bipush e_X6_isReserved_1.2.2.2.2.2.2.2.2.2 (by decide) ?_
      refine R_isub e_X6_isReserved_2.1 ?_
      refine R_iconst e_X6_isReserved_2.2.1 ?_
      refine R_iadd e_X6_isReserved_2.2.2.1 ?_
      obtain ⟨q8, h⟩ := h
      refine R_i2l e_X6_isReserved_2.2.2.2.1 q8 ?_
      refine R_ladd e_X6_isReserved_2.2.2.2.2.1 ?_
      refine R_lstore_n (ls2 := [(1, vL ((l1 * 32) + (((ksat 15 l3) - 97) + 1))), (0, vA G 3), (3, vI l3)]) e_X6_isReserved_2.2.2.2.2.2.1 (by decide) rfl ?_
      refine R_goto 59 e_X6_isReserved_2.2.2.2.2.2.2.1 (by decide) ?_
      refine R_iinc (ls2 := [(3, vI (l3 + 1)), (1, vL ((l1 * 32) + (((ksat 15 l3) - 97) + 1))), (0, vA G 3)]) e_X6_isReserved_3.2.2.2.2.2.2.1 2 rfl (by decide) rfl ?_
      refine R_goto 4 e_X6_isReserved_3.2.2.2.2.2.2.2.1 (by decide) ?_
      refine R_ls (ls2 := [(0, vA G 3), (1, vL ((l1 * 32) + (((ksat 15 l3) - 97) + 1))), (3, vI (l3 + 1))]) [2, 1, 0] rfl ?_
      exact h
/-! KiteLand$Scanner.fail(I)Z -/
theorem e_X6_fail_0 : decode cX6_fail 0 = .ok (.aload_n 0, 1) ∧ decode cX6_fail 1 = .ok (.aload_n 0, 1) ∧ decode cX6_fail 2 = .ok (.getfield 19, 3) ∧ decode cX6_fail 5 = .ok (.iconst 1, 1) ∧ decode cX6_fail 6 = .ok (.if_icmp .ne 7, 3) ∧ decode cX6_fail 9 = .ok (.iconst 1, 1) ∧ decode cX6_fail 10 = .ok (.goto 4, 3) ∧ decode cX6_fail 13 = .ok (.iload_n 1, 1) ∧ decode cX6_fail 14 = .ok (.putfield 38, 3) ∧ decode cX6_fail 17 = .ok (.aload_n 0, 1) := by decide +kernel
theorem e_X6_fail_1 : decode cX6_fail 18 = .ok (.aload_n 0, 1) ∧ decode cX6_fail 19 = .ok (.getfield 22, 3) ∧ decode cX6_fail 22 = .ok (.putfield 41, 3) ∧ decode cX6_fail 25 = .ok (.iconst 0, 1) ∧ decode cX6_fail 26 = .ok (.ireturn, 1) := by decide +kernel
theorem S_X6_fail {G : Kg} {σ : Kmem} {Q : Int → Kmem → Prop} {l1 : Int}  (h : (rI (σ 3 2)) ∧ ((σ 3 2 ≠ 1 → Q 0 (kup (kup σ 3 8 l1) 3 9 ((kup σ 3 8 l1) 3 3))) ∧ (σ 3 2 = 1 → Q 0 (kup (kup σ 3 8 1) 3 9 ((kup σ 3 8 1) 3 3))))) : Run G WX M_X6_fail 0 0 0 [vA G 3, vI l1] σ Q := by
  refine Run.of (by decide +kernel) (by show (2 : Nat) ≤ 2; decide) ?_
  show Ex G WX M_X6_fail 0 0 0 0 [(0, vA G 3), (1, vI l1)] [] σ Q
  refine R_aload_n e_X6_fail_0.1 0 rfl ?_
  refine R_aload_n e_X6_fail_0.2.1 0 rfl ?_
  refine R_getI 6 2 2 e_X6_fail_0.2.2.1 f_X6_19 kx_3 (fun _ _ => rfl) rfl ?_
  refine R_iconst e_X6_fail_0.2.2.2.1 ?_
  obtain ⟨q1, h⟩ := h
  refine R_icmp_ne 13 e_X6_fail_0.2.2.2.2.1 (by decide) q1 (by decide) (fun q => ?_) (fun q => ?_)
  · replace h := h.1 q
    refine R_iload_n e_X6_fail_0.2.2.2.2.2.2.2.1 1 rfl ?_
    refine R_putI 6 8 8 WX_ok e_X6_fail_0.2.2.2.2.2.2.2.2.1 f_X6_38 kx_3 rfl rfl rfl ?_
    refine R_aload_n e_X6_fail_0.2.2.2.2.2.2.2.2.2 0 rfl ?_
    refine R_aload_n e_X6_fail_1.1 0 rfl ?_
    refine R_getI 6 3 3 e_X6_fail_1.2.1 f_X6_22 kx_3 (fun _ _ => rfl) rfl ?_
    refine R_putI 6 9 9 WX_ok e_X6_fail_1.2.2.1 f_X6_41 kx_3 rfl rfl rfl ?_
    refine R_iconst e_X6_fail_1.2.2.2.1 ?_
    exact R_zreturn e_X6_fail_1.2.2.2.2 rfl (Or.inl rfl) h
  · replace h := h.2 q
    refine R_iconst e_X6_fail_0.2.2.2.2.2.1 ?_
    refine R_goto 14 e_X6_fail_0.2.2.2.2.2.2.1 (by decide) ?_
    refine R_putI 6 8 8 WX_ok e_X6_fail_0.2.2.2.2.2.2.2.2.1 f_X6_38 kx_3 rfl rfl rfl ?_
    refine R_aload_n e_X6_fail_0.2.2.2.2.2.2.2.2.2 0 rfl ?_
    refine R_aload_n e_X6_fail_1.1 0 rfl ?_
    refine R_getI 6 3 3 e_X6_fail_1.2.1 f_X6_22 kx_3 (fun _ _ => rfl) rfl ?_
    refine R_putI 6 9 9 WX_ok e_X6_fail_1.2.2.1 f_X6_41 kx_3 rfl rfl rfl ?_
    refine R_iconst e_X6_fail_1.2.2.2.1 ?_
    exact R_zreturn e_X6_fail_1.2.2.2.2 rfl (Or.inl rfl) h
/-! KiteLand$Scanner.takeWord(Ljava/lang/String;)Z -/
theorem e_X6_takeWord_0 : decode cX6_takeWord 0 = .ok (.aload_n 0, 1) ∧ decode cX6_takeWord 1 = .ok (.aload_n 1, 1) ∧ decode cX6_takeWord 2 = .ok (.invokevirtual 76, 3) ∧ decode cX6_takeWord 5 = .ok (.ifCond .ne 9, 3) ∧ decode cX6_takeWord 8 = .ok (.aload_n 0, 1) ∧ decode cX6_takeWord 9 = .ok (.iconst 2, 1) ∧ decode cX6_takeWord 10 = .ok (.invokevirtual 80, 3) ∧ decode cX6_takeWord 13 = .ok (.ireturn, 1) ∧ decode cX6_takeWord 14 = .ok (.aload_n 0, 1) ∧ decode cX6_takeWord 15 = .ok (.invokevirtual 50, 3) := by decide +kernel
theorem e_X6_takeWord_1 : decode cX6_takeWord 18 = .ok (.iconst 1, 1) ∧ decode cX6_takeWord 19 = .ok (.ireturn, 1) := by decide +kernel
theorem S_X6_takeWord {G : Kg} {σ : Kmem} {Q : Int → Kmem → Prop} {i : Nat} {si : String × Nat × String × List Int32} (hi : kStrs[i]? = some si)  (h : Run G WX M_X6_isWord 4 0 0 [vA G 3, vA G (-((10 + i : Nat) : Int))] σ (fun r1 s2 => (rI r1) ∧ ((r1 ≠ 0 → Run G WX M_X6_next 1 0 0 [vA G 3] s2 (fun r4 s5 => Q 1 s5)) ∧ (r1 = 0 → Run G WX M_X6_fail 0 0 0 [vA G 3, vI 2] s2 (fun r6 s7 => (r6 = 0 ∨ r6 = 1) ∧ Q r6 s7))))) : Run G WX M_X6_takeWord 5 0 0 [vA G 3, vA G (-((10 + i : Nat) : Int))] σ Q := by
  refine Run.of (by decide +kernel) (by show (2 : Nat) ≤ 2; decide) ?_
  show Ex G WX M_X6_takeWord 5 0 0 0 [(0, vA G 3), (1, vA G (-((10 + i : Nat) : Int)))] [] σ Q
  refine R_aload_n e_X6_takeWord_0.1 0 rfl ?_
  refine R_aload_n e_X6_takeWord_0.2.1 1 rfl ?_
  refine R_callV (mc := 0) (ms := 0) (mc' := 0) (ms' := 0) (M' := M_X6_isWord) (d' := 4) (as := [vA G (-((10 + i : Nat) : Int))]) (st := []) 6 1 e_X6_takeWord_0.2.2.1 (kCVof m_X6_isWord l_X6_76) rfl (by decide) kx_3 (by decide) (by decide) rfl rfl (by show (0 : Nat) ≤ 8; decide) ?_
  refine Run.mono h (fun r1 s2 h => ?_)
  refine R_eqs (st2 := [vI r1]) rfl rfl ?_
  obtain ⟨q3, h⟩ := h
  refine R_if_ne 14 e_X6_takeWord_0.2.2.2.1 (by decide) q3  (fun q => ?_) (fun q => ?_)
  · replace h := h.1 q
    refine R_aload_n e_X6_takeWord_0.2.2.2.2.2.2.2.2.1 0 rfl ?_
    refine R_callV (mc := 0) (ms := 0) (mc' := 0) (ms' := 0) (M' := M_X6_next) (d' := 1) (as := []) (st := []) 6 0 e_X6_takeWord_0.2.2.2.2.2.2.2.2.2 (kCVof m_X6_next l_X6_50) rfl (by decide) kx_3 (by decide) (by decide) rfl rfl (by show (0 : Nat) ≤ 8; decide) ?_
    refine Run.mono h (fun r4 s5 h => ?_)
    refine R_eqs (st2 := []) rfl rfl ?_
    refine R_iconst e_X6_takeWord_1.1 ?_
    exact R_zreturn e_X6_takeWord_1.2 rfl (Or.inr rfl) h
  · replace h := h.2 q
    refine R_aload_n e_X6_takeWord_0.2.2.2.2.1 0 rfl ?_
    refine R_iconst e_X6_takeWord_0.2.2.2.2.2.1 ?_
    refine R_callV (mc := 0) (ms := 0) (mc' := 0) (ms' := 0) (M' := M_X6_fail) (d' := 0) (as := [vI 2]) (st := []) 6 1 e_X6_takeWord_0.2.2.2.2.2.2.1 (kCVof m_X6_fail l_X6_80) rfl (by decide) kx_3 (by decide) (by decide) rfl rfl (by show (0 : Nat) ≤ 8; decide) ?_
    refine Run.mono h (fun r6 s7 h => ?_)
    refine R_eqs (st2 := [vI r6]) rfl rfl ?_
    obtain ⟨q8, h⟩ := h
    exact R_zreturn e_X6_takeWord_0.2.2.2.2.2.2.2.1 rfl q8 h
/-! KiteLand$Scanner.takeSign(C)Z -/
theorem e_X6_takeSign_0 : decode cX6_takeSign 0 = .ok (.aload_n 0, 1) ∧ decode cX6_takeSign 1 = .ok (.iload_n 1, 1) ∧ decode cX6_takeSign 2 = .ok (.invokevirtual 83, 3) ∧ decode cX6_takeSign 5 = .ok (.ifCond .ne 9, 3) ∧ decode cX6_takeSign 8 = .ok (.aload_n 0, 1) ∧ decode cX6_takeSign 9 = .ok (.iconst 2, 1) ∧ decode cX6_takeSign 10 = .ok (.invokevirtual 80, 3) ∧ decode cX6_takeSign 13 = .ok (.ireturn, 1) ∧ decode cX6_takeSign 14 = .ok (.aload_n 0, 1) ∧ decode cX6_takeSign 15 = .ok (.invokevirtual 50, 3) := by decide +kernel
theorem e_X6_takeSign_1 : decode cX6_takeSign 18 = .ok (.iconst 1, 1) ∧ decode cX6_takeSign 19 = .ok (.ireturn, 1) := by decide +kernel
theorem S_X6_takeSign {G : Kg} {σ : Kmem} {Q : Int → Kmem → Prop} {l1 : Int}  (h : Run G WX M_X6_isSignOf 0 0 0 [vA G 3, vI l1] σ (fun r1 s2 => (rI r1) ∧ ((r1 ≠ 0 → Run G WX M_X6_next 1 0 0 [vA G 3] s2 (fun r4 s5 => Q 1 s5)) ∧ (r1 = 0 → Run G WX M_X6_fail 0 0 0 [vA G 3, vI 2] s2 (fun r6 s7 => (r6 = 0 ∨ r6 = 1) ∧ Q r6 s7))))) : Run G WX M_X6_takeSign 2 0 0 [vA G 3, vI l1] σ Q := by
  refine Run.of (by decide +kernel) (by show (2 : Nat) ≤ 2; decide) ?_
  show Ex G WX M_X6_takeSign 2 0 0 0 [(0, vA G 3), (1, vI l1)] [] σ Q
  refine R_aload_n e_X6_takeSign_0.1 0 rfl ?_
  refine R_iload_n e_X6_takeSign_0.2.1 1 rfl ?_
  refine R_callV (mc := 0) (ms := 0) (mc' := 0) (ms' := 0) (M' := M_X6_isSignOf) (d' := 0) (as := [vI l1]) (st := []) 6 1 e_X6_takeSign_0.2.2.1 (kCVof m_X6_isSignOf l_X6_83) rfl (by decide) kx_3 (by decide) (by decide) rfl rfl (by show (0 : Nat) ≤ 8; decide) ?_
  refine Run.mono h (fun r1 s2 h => ?_)
  refine R_eqs (st2 := [vI r1]) rfl rfl ?_
  obtain ⟨q3, h⟩ := h
  refine R_if_ne 14 e_X6_takeSign_0.2.2.2.1 (by decide) q3  (fun q => ?_) (fun q => ?_)
  · replace h := h.1 q
    refine R_aload_n e_X6_takeSign_0.2.2.2.2.2.2.2.2.1 0 rfl ?_
    refine R_callV (mc := 0) (ms := 0) (mc' := 0) (ms' := 0) (M' := M_X6_next) (d' := 1) (as := []) (st := []) 6 0 e_X6_takeSign_0.2.2.2.2.2.2.2.2.2 (kCVof m_X6_next l_X6_50) rfl (by decide) kx_3 (by decide) (by decide) rfl rfl (by show (0 : Nat) ≤ 8; decide) ?_
    refine Run.mono h (fun r4 s5 h => ?_)
    refine R_eqs (st2 := []) rfl rfl ?_
    refine R_iconst e_X6_takeSign_1.1 ?_
    exact R_zreturn e_X6_takeSign_1.2 rfl (Or.inr rfl) h
  · replace h := h.2 q
    refine R_aload_n e_X6_takeSign_0.2.2.2.2.1 0 rfl ?_
    refine R_iconst e_X6_takeSign_0.2.2.2.2.2.1 ?_
    refine R_callV (mc := 0) (ms := 0) (mc' := 0) (ms' := 0) (M' := M_X6_fail) (d' := 0) (as := [vI 2]) (st := []) 6 1 e_X6_takeSign_0.2.2.2.2.2.2.1 (kCVof m_X6_fail l_X6_80) rfl (by decide) kx_3 (by decide) (by decide) rfl rfl (by show (0 : Nat) ≤ 8; decide) ?_
    refine Run.mono h (fun r6 s7 h => ?_)
    refine R_eqs (st2 := [vI r6]) rfl rfl ?_
    obtain ⟨q8, h⟩ := h
    exact R_zreturn e_X6_takeSign_0.2.2.2.2.2.2.2.1 rfl q8 h
/-! KiteLand$Scanner.takeNumber(II)Z -/
theorem e_X6_takeNumber_0 : decode cX6_takeNumber 0 = .ok (.aload_n 0, 1) ∧ decode cX6_takeNumber 1 = .ok (.getfield 19, 3) ∧ decode cX6_takeNumber 4 = .ok (.iconst 3, 1) ∧ decode cX6_takeNumber 5 = .ok (.if_icmp .eq 9, 3) ∧ decode cX6_takeNumber 8 = .ok (.aload_n 0, 1) ∧ decode cX6_takeNumber 9 = .ok (.iconst 2, 1) ∧ decode cX6_takeNumber 10 = .ok (.invokevirtual 80, 3) ∧ decode cX6_takeNumber 13 = .ok (.ireturn, 1) ∧ decode cX6_takeNumber 14 = .ok (.aload_n 0, 1) ∧ decode cX6_takeNumber 15 = .ok (.getfield 28, 3) := by decide +kernel
theorem e_X6_takeNumber_1 : decode cX6_takeNumber 18 = .ok (.iload_n 1, 1) ∧ decode cX6_takeNumber 19 = .ok (.if_icmp .lt 11, 3) ∧ decode cX6_takeNumber 22 = .ok (.aload_n 0, 1) ∧ decode cX6_takeNumber 23 = .ok (.getfield 28, 3) ∧ decode cX6_takeNumber 26 = .ok (.iload_n 2, 1) ∧ decode cX6_takeNumber 27 = .ok (.if_icmp .le 9, 3) ∧ decode cX6_takeNumber 30 = .ok (.aload_n 0, 1) ∧ decode cX6_takeNumber 31 = .ok (.iconst 4, 1) ∧ decode cX6_takeNumber 32 = .ok (.invokevirtual 80, 3) ∧ decode cX6_takeNumber 35 = .ok (.ireturn, 1) := by decide +kernel
theorem e_X6_takeNumber_2 : decode cX6_takeNumber 36 = .ok (.aload_n 0, 1) ∧ decode cX6_takeNumber 37 = .ok (.aload_n 0, 1) ∧ decode cX6_takeNumber 38 = .ok (.getfield 28, 3) ∧ decode cX6_takeNumber 41 = .ok (.putfield 35, 3) ∧ decode cX6_takeNumber 44 = .ok (.aload_n 0, 1) ∧ decode cX6_takeNumber 45 = .ok (.invokevirtual 50, 3) ∧ decode cX6_takeNumber 48 = .ok (.iconst 1, 1) ∧ decode cX6_takeNumber 49 = .ok (.ireturn, 1) := by decide +kernel
theorem S_X6_takeNumber {G : Kg} {σ : Kmem} {Q : Int → Kmem → Prop} {l1 l2 : Int}  (h : (rI (σ 3 2)) ∧ ((σ 3 2 = 3 → (rI (σ 3 5)) ∧ (rI l1) ∧ ((σ 3 5 < l1 → Run G WX M_X6_fail 0 0 0 [vA G 3, vI 4] σ (fun r4 s5 => (r4 = 0 ∨ r4 = 1) ∧ Q r4 s5)) ∧ (l1 ≤ σ 3 5 → (rI l2) ∧ ((σ 3 5 ≤ l2 → Run G WX M_X6_next 1 0 0 [vA G 3] (kup σ 3 7 (σ 3 5)) (fun r8 s9 => Q 1 s9)) ∧ (l2 < σ 3 5 → Run G WX M_X6_fail 0 0 0 [vA G 3, vI 4] σ (fun r10 s11 => (r10 = 0 ∨ r10 = 1) ∧ Q r10 s11)))))) ∧ (σ 3 2 ≠ 3 → Run G WX M_X6_fail 0 0 0 [vA G 3, vI 2] σ (fun r13 s14 => (r13 = 0 ∨ r13 = 1) ∧ Q r13 s14)))) : Run G WX M_X6_takeNumber 2 0 0 [vA G 3, vI l1, vI l2] σ Q := by
  refine Run.of (by decide +kernel) (by show (3 : Nat) ≤ 3; decide) ?_
  show Ex G WX M_X6_takeNumber 2 0 0 0 [(0, vA G 3), (1, vI l1), (2, vI l2)] [] σ Q
  refine R_aload_n e_X6_takeNumber_0.1 0 rfl ?_
  refine R_getI 6 2 2 e_X6_takeNumber_0.2.1 f_X6_19 kx_3 (fun _ _ => rfl) rfl ?_
  refine R_iconst e_X6_takeNumber_0.2.2.1 ?_
  obtain ⟨q1, h⟩ := h
  refine R_icmp_eq 14 e_X6_takeNumber_0.2.2.2.1 (by decide) q1 (by decide) (fun q => ?_) (fun q => ?_)
  · replace h := h.1 q
    refine R_aload_n e_X6_takeNumber_0.2.2.2.2.2.2.2.2.1 0 rfl ?_
    refine R_getI 6 5 5 e_X6_takeNumber_0.2.2.2.2.2.2.2.2.2 f_X6_28 kx_3 (fun _ _ => rfl) rfl ?_
    refine R_iload_n e_X6_takeNumber_1.1 1 rfl ?_
    obtain ⟨q2, h⟩ := h
    obtain ⟨q3, h⟩ := h
    refine R_icmp_lt 30 e_X6_takeNumber_1.2.1 (by decide) q2 q3 (fun q => ?_) (fun q => ?_)
    · replace h := h.1 q
      refine R_aload_n e_X6_takeNumber_1.2.2.2.2.2.2.1 0 rfl ?_
      refine R_iconst e_X6_takeNumber_1.2.2.2.2.2.2.2.1 ?_
      refine R_callV (mc := 0) (ms := 0) (mc' := 0) (ms' := 0) (M' := M_X6_fail) (d' := 0) (as := [vI 4]) (st := []) 6 1 e_X6_takeNumber_1.2.2.2.2.2.2.2.2.1 (kCVof m_X6_fail l_X6_80) rfl (by decide) kx_3 (by decide) (by decide) rfl rfl (by show (0 : Nat) ≤ 8; decide) ?_
      refine Run.mono h (fun r4 s5 h => ?_)
      refine R_eqs (st2 := [vI r4]) rfl rfl ?_
      obtain ⟨q6, h⟩ := h
      exact R_zreturn e_X6_takeNumber_1.2.2.2.2.2.2.2.2.2 rfl q6 h
    · replace h := h.2 q
      refine R_aload_n e_X6_takeNumber_1.2.2.1 0 rfl ?_
      refine R_getI 6 5 5 e_X6_takeNumber_1.2.2.2.1 f_X6_28 kx_3 (fun _ _ => rfl) rfl ?_
      refine R_iload_n e_X6_takeNumber_1.2.2.2.2.1 2 rfl ?_
      obtain ⟨q7, h⟩ := h
      refine R_icmp_le 36 e_X6_takeNumber_1.2.2.2.2.2.1 (by decide) q2 q7 (fun q => ?_) (fun q => ?_)
      · replace h := h.1 q
        refine R_aload_n e_X6_takeNumber_2.1 0 rfl ?_
        refine R_aload_n e_X6_takeNumber_2.2.1 0 rfl ?_
        refine R_getI 6 5 5 e_X6_takeNumber_2.2.2.1 f_X6_28 kx_3 (fun _ _ => rfl) rfl ?_
        refine R_putI 6 7 7 WX_ok e_X6_takeNumber_2.2.2.2.1 f_X6_35 kx_3 rfl rfl rfl ?_
        refine R_aload_n e_X6_takeNumber_2.2.2.2.2.1 0 rfl ?_
        refine R_callV (mc := 0) (ms := 0) (mc' := 0) (ms' := 0) (M' := M_X6_next) (d' := 1) (as := []) (st := []) 6 0 e_X6_takeNumber_2.2.2.2.2.2.1 (kCVof m_X6_next l_X6_50) rfl (by decide) kx_3 (by decide) (by decide) rfl rfl (by show (0 : Nat) ≤ 8; decide) ?_
        refine Run.mono h (fun r8 s9 h => ?_)
        refine R_eqs (st2 := []) rfl rfl ?_
        refine R_iconst e_X6_takeNumber_2.2.2.2.2.2.2.1 ?_
        exact R_zreturn e_X6_takeNumber_2.2.2.2.2.2.2.2 rfl (Or.inr rfl) h
      · replace h := h.2 q
        refine R_aload_n e_X6_takeNumber_1.2.2.2.2.2.2.1 0 rfl ?_
        refine R_iconst e_X6_takeNumber_1.2.2.2.2.2.2.2.1 ?_
        refine R_callV (mc := 0) (ms := 0) (mc' := 0) (ms' := 0) (M' := M_X6_fail) (d' := 0) (as := [vI 4]) (st := []) 6 1 e_X6_takeNumber_1.2.2.2.2.2.2.2.2.1 (kCVof m_X6_fail l_X6_80) rfl (by decide) kx_3 (by decide) (by decide) rfl rfl (by show (0 : Nat) ≤ 8; decide) ?_
        refine Run.mono h (fun r10 s11 h => ?_)
        refine R_eqs (st2 := [vI r10]) rfl rfl ?_
        obtain ⟨q12, h⟩ := h
        exact R_zreturn e_X6_takeNumber_1.2.2.2.2.2.2.2.2.2 rfl q12 h
  · replace h := h.2 q
    refine R_aload_n e_X6_takeNumber_0.2.2.2.2.1 0 rfl ?_
    refine R_iconst e_X6_takeNumber_0.2.2.2.2.2.1 ?_
    refine R_callV (mc := 0) (ms := 0) (mc' := 0) (ms' := 0) (M' := M_X6_fail) (d' := 0) (as := [vI 2]) (st := []) 6 1 e_X6_takeNumber_0.2.2.2.2.2.2.1 (kCVof m_X6_fail l_X6_80) rfl (by decide) kx_3 (by decide) (by decide) rfl rfl (by show (0 : Nat) ≤ 8; decide) ?_
    refine Run.mono h (fun r13 s14 h => ?_)
    refine R_eqs (st2 := [vI r13]) rfl rfl ?_
    obtain ⟨q15, h⟩ := h
    exact R_zreturn e_X6_takeNumber_0.2.2.2.2.2.2.2.1 rfl q15 h
/-! KiteLand$Scanner.isNameHere()Z -/
theorem e_X6_isNameHere_0 : decode cX6_isNameHere 0 = .ok (.aload_n 0, 1) ∧ decode cX6_isNameHere 1 = .ok (.getfield 19, 3) ∧ decode cX6_isNameHere 4 = .ok (.iconst 2, 1) ∧ decode cX6_isNameHere 5 = .ok (.if_icmp .ne 24, 3) ∧ decode cX6_isNameHere 8 = .ok (.aload_n 0, 1) ∧ decode cX6_isNameHere 9 = .ok (.getfield 25, 3) ∧ decode cX6_isNameHere 12 = .ok (.aload_n 0, 1) ∧ decode cX6_isNameHere 13 = .ok (.getfield 22, 3) ∧ decode cX6_isNameHere 16 = .ok (.isub, 1) ∧ decode cX6_isNameHere 17 = .ok (.bipush 8, 2) := by decide +kernel
theorem e_X6_isNameHere_1 : decode cX6_isNameHere 19 = .ok (.if_icmp .gt 10, 3) ∧ decode cX6_isNameHere 22 = .ok (.aload_n 0, 1) ∧ decode cX6_isNameHere 23 = .ok (.invokevirtual 87, 3) ∧ decode cX6_isNameHere 26 = .ok (.ifCond .eq 11, 3) ∧ decode cX6_isNameHere 29 = .ok (.aload_n 0, 1) ∧ decode cX6_isNameHere 30 = .ok (.iconst 2, 1) ∧ decode cX6_isNameHere 31 = .ok (.invokevirtual 80, 3) ∧ decode cX6_isNameHere 34 = .ok (.ifCond .eq 7, 3) ∧ decode cX6_isNameHere 37 = .ok (.iconst 1, 1) ∧ decode cX6_isNameHere 38 = .ok (.goto 4, 3) := by decide +kernel
theorem e_X6_isNameHere_2 : decode cX6_isNameHere 41 = .ok (.iconst 0, 1) ∧ decode cX6_isNameHere 42 = .ok (.ireturn, 1) := by decide +kernel
theorem S_X6_isNameHere {G : Kg} {σ : Kmem} {Q : Int → Kmem → Prop}  (h : (rI (σ 3 2)) ∧ ((σ 3 2 ≠ 2 → Run G WX M_X6_fail 0 0 0 [vA G 3, vI 2] σ (fun r2 s3 => (rI r2) ∧ ((r2 = 0 → Q 0 s3) ∧ (r2 ≠ 0 → Q 1 s3)))) ∧ (σ 3 2 = 2 → (rI ((σ 3 4) - (σ 3 3))) ∧ ((8 < (σ 3 4) - (σ 3 3) → Run G WX M_X6_fail 0 0 0 [vA G 3, vI 2] σ (fun r6 s7 => (rI r6) ∧ ((r6 = 0 → Q 0 s7) ∧ (r6 ≠ 0 → Q 1 s7)))) ∧ ((σ 3 4) - (σ 3 3) ≤ 8 → Run G WX M_X6_isReserved 4 0 0 [vA G 3] σ (fun r9 s10 => (rI r9) ∧ ((r9 = 0 → Q 1 s10) ∧ (r9 ≠ 0 → Run G WX M_X6_fail 0 0 0 [vA G 3, vI 2] s10 (fun r12 s13 => (rI r12) ∧ ((r12 = 0 → Q 0 s13) ∧ (r12 ≠ 0 → Q 1 s13))))))))))) : Run G WX M_X6_isNameHere 5 0 0 [vA G 3] σ Q := by
  refine Run.of (by decide +kernel) (by show (1 : Nat) ≤ 1; decide) ?_
  show Ex G WX M_X6_isNameHere 5 0 0 0 [(0, vA G 3)] [] σ Q
  refine R_aload_n e_X6_isNameHere_0.1 0 rfl ?_
  refine R_getI 6 2 2 e_X6_isNameHere_0.2.1 f_X6_19 kx_3 (fun _ _ => rfl) rfl ?_
  refine R_iconst e_X6_isNameHere_0.2.2.1 ?_
  obtain ⟨q1, h⟩ := h
  refine R_icmp_ne 29 e_X6_isNameHere_0.2.2.2.1 (by decide) q1 (by decide) (fun q => ?_) (fun q => ?_)
  · replace h := h.1 q
    refine R_aload_n e_X6_isNameHere_1.2.2.2.2.1 0 rfl ?_
    refine R_iconst e_X6_isNameHere_1.2.2.2.2.2.1 ?_
    refine R_callV (mc := 0) (ms := 0) (mc' := 0) (ms' := 0) (M' := M_X6_fail) (d' := 0) (as := [vI 2]) (st := []) 6 1 e_X6_isNameHere_1.2.2.2.2.2.2.1 (kCVof m_X6_fail l_X6_80) rfl (by decide) kx_3 (by decide) (by decide) rfl rfl (by show (0 : Nat) ≤ 8; decide) ?_
    refine Run.mono h (fun r2 s3 h => ?_)
    refine R_eqs (st2 := [vI r2]) rfl rfl ?_
    obtain ⟨q4, h⟩ := h
    refine R_if_eq 41 e_X6_isNameHere_1.2.2.2.2.2.2.2.1 (by decide) q4  (fun q => ?_) (fun q => ?_)
    · replace h := h.1 q
      refine R_iconst e_X6_isNameHere_2.1 ?_
      exact R_zreturn e_X6_isNameHere_2.2 rfl (Or.inl rfl) h
    · replace h := h.2 q
      refine R_iconst e_X6_isNameHere_1.2.2.2.2.2.2.2.2.1 ?_
      refine R_goto 42 e_X6_isNameHere_1.2.2.2.2.2.2.2.2.2 (by decide) ?_
      exact R_zreturn e_X6_isNameHere_2.2 rfl (Or.inr rfl) h
  · replace h := h.2 q
    refine R_aload_n e_X6_isNameHere_0.2.2.2.2.1 0 rfl ?_
    refine R_getI 6 4 4 e_X6_isNameHere_0.2.2.2.2.2.1 f_X6_25 kx_3 (fun _ _ => rfl) rfl ?_
    refine R_aload_n e_X6_isNameHere_0.2.2.2.2.2.2.1 0 rfl ?_
    refine R_getI 6 3 3 e_X6_isNameHere_0.2.2.2.2.2.2.2.1 f_X6_22 kx_3 (fun _ _ => rfl) rfl ?_
    refine R_isub e_X6_isNameHere_0.2.2.2.2.2.2.2.2.1 ?_
    refine R_bipush e_X6_isNameHere_0.2.2.2.2.2.2.2.2.2 (by decide) ?_
    obtain ⟨q5, h⟩ := h
    refine R_icmp_gt 29 e_X6_isNameHere_1.1 (by decide) q5 (by decide) (fun q => ?_) (fun q => ?_)
    · replace h := h.1 q
      refine R_aload_n e_X6_isNameHere_1.2.2.2.2.1 0 rfl ?_
      refine R_iconst e_X6_isNameHere_1.2.2.2.2.2.1 ?_
      refine R_callV (mc := 0) (ms := 0) (mc' := 0) (ms' := 0) (M' := M_X6_fail) (d' := 0) (as := [vI 2]) (st := []) 6 1 e_X6_isNameHere_1.2.2.2.2.2.2.1 (kCVof m_X6_fail l_X6_80) rfl (by decide) kx_3 (by decide) (by decide) rfl rfl (by show (0 : Nat) ≤ 8; decide) ?_
      refine Run.mono h (fun r6 s7 h => ?_)
      refine R_eqs (st2 := [vI r6]) rfl rfl ?_
      obtain ⟨q8, h⟩ := h
      refine R_if_eq 41 e_X6_isNameHere_1.2.2.2.2.2.2.2.1 (by decide) q8  (fun q => ?_) (fun q => ?_)
      · replace h := h.1 q
        refine R_iconst e_X6_isNameHere_2.1 ?_
        exact R_zreturn e_X6_isNameHere_2.2 rfl (Or.inl rfl) h
      · replace h := h.2 q
        refine R_iconst e_X6_isNameHere_1.2.2.2.2.2.2.2.2.1 ?_
        refine R_goto 42 e_X6_isNameHere_1.2.2.2.2.2.2.2.2.2 (by decide) ?_
        exact R_zreturn e_X6_isNameHere_2.2 rfl (Or.inr rfl) h
    · replace h := h.2 q
      refine R_aload_n e_X6_isNameHere_1.2.1 0 rfl ?_
      refine R_callV (mc := 0) (ms := 0) (mc' := 0) (ms' := 0) (M' := M_X6_isReserved) (d' := 4) (as := []) (st := []) 6 0 e_X6_isNameHere_1.2.2.1 (kCVof m_X6_isReserved l_X6_87) rfl (by decide) kx_3 (by decide) (by decide) rfl rfl (by show (0 : Nat) ≤ 8; decide) ?_
      refine Run.mono h (fun r9 s10 h => ?_)
      refine R_eqs (st2 := [vI r9]) rfl rfl ?_
      obtain ⟨q11, h⟩ := h
      refine R_if_eq 37 e_X6_isNameHere_1.2.2.2.1 (by decide) q11  (fun q => ?_) (fun q => ?_)
      · replace h := h.1 q
        refine R_iconst e_X6_isNameHere_1.2.2.2.2.2.2.2.2.1 ?_
        refine R_goto 42 e_X6_isNameHere_1.2.2.2.2.2.2.2.2.2 (by decide) ?_
        exact R_zreturn e_X6_isNameHere_2.2 rfl (Or.inr rfl) h
      · replace h := h.2 q
        refine R_aload_n e_X6_isNameHere_1.2.2.2.2.1 0 rfl ?_
        refine R_iconst e_X6_isNameHere_1.2.2.2.2.2.1 ?_
        refine R_callV (mc := 0) (ms := 0) (mc' := 0) (ms' := 0) (M' := M_X6_fail) (d' := 0) (as := [vI 2]) (st := []) 6 1 e_X6_isNameHere_1.2.2.2.2.2.2.1 (kCVof m_X6_fail l_X6_80) rfl (by decide) kx_3 (by decide) (by decide) rfl rfl (by show (0 : Nat) ≤ 8; decide) ?_
        refine Run.mono h (fun r12 s13 h => ?_)
        refine R_eqs (st2 := [vI r12]) rfl rfl ?_
        obtain ⟨q14, h⟩ := h
        refine R_if_eq 41 e_X6_isNameHere_1.2.2.2.2.2.2.2.1 (by decide) q14  (fun q => ?_) (fun q => ?_)
        · replace h := h.1 q
          refine R_iconst e_X6_isNameHere_2.1 ?_
          exact R_zreturn e_X6_isNameHere_2.2 rfl (Or.inl rfl) h
        · replace h := h.2 q
          refine R_iconst e_X6_isNameHere_1.2.2.2.2.2.2.2.2.1 ?_
          refine R_goto 42 e_X6_isNameHere_1.2.2.2.2.2.2.2.2.2 (by decide) ?_
          exact R_zreturn e_X6_isNameHere_2.2 rfl (Or.inr rfl) h
/-! KiteLand$County.clear()V -/
theorem e_X0_clear_0 : decode cX0_clear 0 = .ok (.aload_n 0, 1) ∧ decode cX0_clear 1 = .ok (.iconst 0, 1) ∧ decode cX0_clear 2 = .ok (.putfield 9, 3) ∧ decode cX0_clear 5 = .ok (.aload_n 0, 1) ∧ decode cX0_clear 6 = .ok (.iconst 0, 1) ∧ decode cX0_clear 7 = .ok (.putfield 15, 3) ∧ decode cX0_clear 10 = .ok (.aload_n 0, 1) ∧ decode cX0_clear 11 = .ok (.bipush 6, 2) ∧ decode cX0_clear 13 = .ok (.putfield 18, 3) ∧ decode cX0_clear 16 = .ok (.aload_n 0, 1) := by decide +kernel
theorem e_X0_clear_1 : decode cX0_clear 17 = .ok (.iconst 0, 1) ∧ decode cX0_clear 18 = .ok (.putfield 21, 3) ∧ decode cX0_clear 21 = .ok (.aload_n 0, 1) ∧ decode cX0_clear 22 = .ok (.iconst 0, 1) ∧ decode cX0_clear 23 = .ok (.putfield 24, 3) ∧ decode cX0_clear 26 = .ok (.aload_n 0, 1) ∧ decode cX0_clear 27 = .ok (.iconst 0, 1) ∧ decode cX0_clear 28 = .ok (.putfield 27, 3) ∧ decode cX0_clear 31 = .ok (.aload_n 0, 1) ∧ decode cX0_clear 32 = .ok (.iconst 0, 1) := by decide +kernel
theorem e_X0_clear_2 : decode cX0_clear 33 = .ok (.putfield 30, 3) ∧ decode cX0_clear 36 = .ok (.aload_n 0, 1) ∧ decode cX0_clear 37 = .ok (.iconst 0, 1) ∧ decode cX0_clear 38 = .ok (.putfield 33, 3) ∧ decode cX0_clear 41 = .ok (.iconst 0, 1) ∧ decode cX0_clear 42 = .ok (.istore_n 1, 1) ∧ decode cX0_clear 43 = .ok (.iload_n 1, 1) ∧ decode cX0_clear 44 = .ok (.bipush 12, 2) ∧ decode cX0_clear 46 = .ok (.if_icmp .ge 23, 3) ∧ decode cX0_clear 49 = .ok (.aload_n 0, 1) := by decide +kernel
theorem e_X0_clear_3 : decode cX0_clear 50 = .ok (.getfield 36, 3) ∧ decode cX0_clear 53 = .ok (.iload_n 1, 1) ∧ decode cX0_clear 54 = .ok (.iconst 2, 1) ∧ decode cX0_clear 55 = .ok (.iastore, 1) ∧ decode cX0_clear 56 = .ok (.aload_n 0, 1) ∧ decode cX0_clear 57 = .ok (.getfield 40, 3) ∧ decode cX0_clear 60 = .ok (.iload_n 1, 1) ∧ decode cX0_clear 61 = .ok (.iconst 2, 1) ∧ decode cX0_clear 62 = .ok (.iastore, 1) ∧ decode cX0_clear 63 = .ok (.iinc 1 1, 3) := by decide +kernel
theorem e_X0_clear_4 : decode cX0_clear 66 = .ok (.goto (-23), 3) ∧ decode cX0_clear 69 = .ok (.return_, 1) := by decide +kernel
abbrev E_X0_clear_43 (G : Kg) (c l1 : Int) (σ : Kmem) (Q : Int → Kmem → Prop) : Prop := Ex G WX M_X0_clear 0 0 0 43 [(0, vA G c), (1, vI l1)] [] σ Q
theorem S_X0_clear {G : Kg} {σ : Kmem} {Q : Int → Kmem → Prop} {c : Int} (hc : isC c) (h : E_X0_clear_43 G c 0 (kup (kup (kup (kup (kup (kup (kup (kup σ c 0 0) c 1 0) c 2 6) c 3 0) c 4 0) c 5 0) c 6 0) c 7 0) Q) : Run G WX M_X0_clear 0 0 0 [vA G c] σ Q := by
  refine Run.of (by decide +kernel) (by show (1 : Nat) ≤ 2; decide) ?_
  show Ex G WX M_X0_clear 0 0 0 0 [(0, vA G c)] [] σ Q
  refine R_aload_n e_X0_clear_0.1 0 rfl ?_
  refine R_iconst e_X0_clear_0.2.1 ?_
  refine R_putI 0 0 0 WX_ok e_X0_clear_0.2.2.1 f_X0_9 (kC_self hc) rfl rfl rfl ?_
  refine R_aload_n e_X0_clear_0.2.2.2.1 0 rfl ?_
  refine R_iconst e_X0_clear_0.2.2.2.2.1 ?_
  refine R_putI 0 1 1 WX_ok e_X0_clear_0.2.2.2.2.2.1 f_X0_15 (kC_self hc) rfl rfl rfl ?_
  refine R_aload_n e_X0_clear_0.2.2.2.2.2.2.1 0 rfl ?_
  refine R_bipush e_X0_clear_0.2.2.2.2.2.2.2.1 (by decide) ?_
  refine R_putI 0 2 2 WX_ok e_X0_clear_0.2.2.2.2.2.2.2.2.1 f_X0_18 (kC_self hc) rfl rfl rfl ?_
  refine R_aload_n e_X0_clear_0.2.2.2.2.2.2.2.2.2 0 rfl ?_
  refine R_iconst e_X0_clear_1.1 ?_
  refine R_putI 0 3 3 WX_ok e_X0_clear_1.2.1 f_X0_21 (kC_self hc) rfl rfl rfl ?_
  refine R_aload_n e_X0_clear_1.2.2.1 0 rfl ?_
  refine R_iconst e_X0_clear_1.2.2.2.1 ?_
  refine R_putI 0 4 4 WX_ok e_X0_clear_1.2.2.2.2.1 f_X0_24 (kC_self hc) rfl rfl rfl ?_
  refine R_aload_n e_X0_clear_1.2.2.2.2.2.1 0 rfl ?_
  refine R_iconst e_X0_clear_1.2.2.2.2.2.2.1 ?_
  refine R_putI 0 5 5 WX_ok e_X0_clear_1.2.2.2.2.2.2.2.1 f_X0_27 (kC_self hc) rfl rfl rfl ?_
  refine R_aload_n e_X0_clear_1.2.2.2.2.2.2.2.2.1 0 rfl ?_
  refine R_iconst e_X0_clear_1.2.2.2.2.2.2.2.2.2 ?_
  refine R_putI 0 6 6 WX_ok e_X0_clear_2.1 f_X0_30 (kC_self hc) rfl rfl rfl ?_
  refine R_aload_n e_X0_clear_2.2.1 0 rfl ?_
  refine R_iconst e_X0_clear_2.2.2.1 ?_
  refine R_putI 0 7 7 WX_ok e_X0_clear_2.2.2.2.1 f_X0_33 (kC_self hc) rfl rfl rfl ?_
  refine R_iconst e_X0_clear_2.2.2.2.2.1 ?_
  refine R_istore_n (ls2 := [(1, vI 0), (0, vA G c)]) e_X0_clear_2.2.2.2.2.2.1 (by decide) rfl ?_
  refine R_ls (ls2 := [(0, vA G c), (1, vI 0)]) [1, 0] rfl ?_
  exact h
theorem S_X0_clear_43 {G : Kg} {σ : Kmem} {Q : Int → Kmem → Prop} {c l1 : Int} (hc : isC c) (h : (rI l1) ∧ ((12 ≤ l1 → Q 0 σ) ∧ (l1 < 12 → (0 ≤ l1 ∧ l1 < 12) ∧ (0 ≤ l1 ∧ l1 < 12) ∧ E_X0_clear_43 G c (l1 + 1) (kup (kup σ (c + 1) l1 2) (c + 2) l1 2) Q))) : E_X0_clear_43 G c l1 σ Q := by
  refine R_iload_n e_X0_clear_2.2.2.2.2.2.2.1 1 rfl ?_
  refine R_bipush e_X0_clear_2.2.2.2.2.2.2.2.1 (by decide) ?_
  obtain ⟨q1, h⟩ := h
  refine R_icmp_ge 69 e_X0_clear_2.2.2.2.2.2.2.2.2.1 (by decide) q1 (by decide) (fun q => ?_) (fun q => ?_)
  · replace h := h.1 q
    exact R_return e_X0_clear_4.2 rfl h
  · replace h := h.2 q
    refine R_aload_n e_X0_clear_2.2.2.2.2.2.2.2.2.2 0 rfl ?_
    refine R_getA 0 8 (c + 1) e_X0_clear_3.1 f_X0_36 (kC_self hc) (fun _ _ => rfl) (kC_r8 hc) (kC_n1 hc) ?_
    refine R_iload_n e_X0_clear_3.2.1 1 rfl ?_
    refine R_iconst e_X0_clear_3.2.2.1 ?_
    obtain ⟨q2, h⟩ := h
    refine R_iast 12 WX_ok e_X0_clear_3.2.2.2.1 (kC_dirs hc) q2 ?_
    refine R_aload_n e_X0_clear_3.2.2.2.2.1 0 rfl ?_
    refine R_getA 0 9 (c + 2) e_X0_clear_3.2.2.2.2.2.1 f_X0_40 (kC_self hc) (fun _ _ => rfl) (kC_r9 hc) (kC_n2 hc) ?_
    refine R_iload_n e_X0_clear_3.2.2.2.2.2.2.1 1 rfl ?_
    refine R_iconst e_X0_clear_3.2.2.2.2.2.2.2.1 ?_
    obtain ⟨q3, h⟩ := h
    refine R_iast 12 WX_ok e_X0_clear_3.2.2.2.2.2.2.2.2.1 (kC_forces hc) q3 ?_
    refine R_iinc (ls2 := [(1, vI (l1 + 1)), (0, vA G c)]) e_X0_clear_3.2.2.2.2.2.2.2.2.2 1 rfl (by decide) rfl ?_
    refine R_goto 43 e_X0_clear_4.1 (by decide) ?_
    refine R_ls (ls2 := [(0, vA G c), (1, vI (l1 + 1))]) [1, 0] rfl ?_
    exact h
/-! KiteLand$County.copy(LKiteLand$County;)V -/
theorem e_X0_copy_0 : decode cX0_copy 0 = .ok (.aload_n 0, 1) ∧ decode cX0_copy 1 = .ok (.aload_n 1, 1) ∧ decode cX0_copy 2 = .ok (.getfield 9, 3) ∧ decode cX0_copy 5 = .ok (.putfield 9, 3) ∧ decode cX0_copy 8 = .ok (.aload_n 0, 1) ∧ decode cX0_copy 9 = .ok (.aload_n 1, 1) ∧ decode cX0_copy 10 = .ok (.getfield 15, 3) ∧ decode cX0_copy 13 = .ok (.putfield 15, 3) ∧ decode cX0_copy 16 = .ok (.aload_n 0, 1) ∧ decode cX0_copy 17 = .ok (.aload_n 1, 1) := by decide +kernel
theorem e_X0_copy_1 : decode cX0_copy 18 = .ok (.getfield 18, 3) ∧ decode cX0_copy 21 = .ok (.putfield 18, 3) ∧ decode cX0_copy 24 = .ok (.aload_n 0, 1) ∧ decode cX0_copy 25 = .ok (.aload_n 1, 1) ∧ decode cX0_copy 26 = .ok (.getfield 21, 3) ∧ decode cX0_copy 29 = .ok (.putfield 21, 3) ∧ decode cX0_copy 32 = .ok (.aload_n 0, 1) ∧ decode cX0_copy 33 = .ok (.aload_n 1, 1) ∧ decode cX0_copy 34 = .ok (.getfield 24, 3) ∧ decode cX0_copy 37 = .ok (.putfield 24, 3) := by decide +kernel
theorem e_X0_copy_2 : decode cX0_copy 40 = .ok (.aload_n 0, 1) ∧ decode cX0_copy 41 = .ok (.aload_n 1, 1) ∧ decode cX0_copy 42 = .ok (.getfield 27, 3) ∧ decode cX0_copy 45 = .ok (.putfield 27, 3) ∧ decode cX0_copy 48 = .ok (.aload_n 0, 1) ∧ decode cX0_copy 49 = .ok (.aload_n 1, 1) ∧ decode cX0_copy 50 = .ok (.getfield 30, 3) ∧ decode cX0_copy 53 = .ok (.putfield 30, 3) ∧ decode cX0_copy 56 = .ok (.aload_n 0, 1) ∧ decode cX0_copy 57 = .ok (.aload_n 1, 1) := by decide +kernel
theorem e_X0_copy_3 : decode cX0_copy 58 = .ok (.getfield 33, 3) ∧ decode cX0_copy 61 = .ok (.putfield 33, 3) ∧ decode cX0_copy 64 = .ok (.aload_n 1, 1) ∧ decode cX0_copy 65 = .ok (.getfield 36, 3) ∧ decode cX0_copy 68 = .ok (.iconst 0, 1) ∧ decode cX0_copy 69 = .ok (.aload_n 0, 1) ∧ decode cX0_copy 70 = .ok (.getfield 36, 3) ∧ decode cX0_copy 73 = .ok (.iconst 0, 1) ∧ decode cX0_copy 74 = .ok (.bipush 12, 2) ∧ decode cX0_copy 76 = .ok (.invokestatic 67, 3) := by decide +kernel
theorem e_X0_copy_4 : decode cX0_copy 79 = .ok (.aload_n 1, 1) ∧ decode cX0_copy 80 = .ok (.getfield 40, 3) ∧ decode cX0_copy 83 = .ok (.iconst 0, 1) ∧ decode cX0_copy 84 = .ok (.aload_n 0, 1) ∧ decode cX0_copy 85 = .ok (.getfield 40, 3) ∧ decode cX0_copy 88 = .ok (.iconst 0, 1) ∧ decode cX0_copy 89 = .ok (.bipush 12, 2) ∧ decode cX0_copy 91 = .ok (.invokestatic 67, 3) ∧ decode cX0_copy 94 = .ok (.iconst 0, 1) ∧ decode cX0_copy 95 = .ok (.istore_n 2, 1) := by decide +kernel
theorem e_X0_copy_5 : decode cX0_copy 96 = .ok (.iload_n 2, 1) ∧ decode cX0_copy 97 = .ok (.aload_n 0, 1) ∧ decode cX0_copy 98 = .ok (.getfield 27, 3) ∧ decode cX0_copy 101 = .ok (.if_icmp .ge 24, 3) ∧ decode cX0_copy 104 = .ok (.aload_n 0, 1) ∧ decode cX0_copy 105 = .ok (.getfield 45, 3) ∧ decode cX0_copy 108 = .ok (.iload_n 2, 1) ∧ decode cX0_copy 109 = .ok (.aaload, 1) ∧ decode cX0_copy 110 = .ok (.aload_n 1, 1) ∧ decode cX0_copy 111 = .ok (.getfield 45, 3) := by decide +kernel
theorem e_X0_copy_6 : decode cX0_copy 114 = .ok (.iload_n 2, 1) ∧ decode cX0_copy 115 = .ok (.aaload, 1) ∧ decode cX0_copy 116 = .ok (.invokevirtual 73, 3) ∧ decode cX0_copy 119 = .ok (.iinc 2 1, 3) ∧ decode cX0_copy 122 = .ok (.goto (-26), 3) ∧ decode cX0_copy 125 = .ok (.iconst 0, 1) ∧ decode cX0_copy 126 = .ok (.istore_n 2, 1) ∧ decode cX0_copy 127 = .ok (.iload_n 2, 1) ∧ decode cX0_copy 128 = .ok (.aload_n 0, 1) ∧ decode cX0_copy 129 = .ok (.getfield 30, 3) := by decide +kernel
theorem e_X0_copy_7 : decode cX0_copy 132 = .ok (.if_icmp .ge 24, 3) ∧ decode cX0_copy 135 = .ok (.aload_n 0, 1) ∧ decode cX0_copy 136 = .ok (.getfield 51, 3) ∧ decode cX0_copy 139 = .ok (.iload_n 2, 1) ∧ decode cX0_copy 140 = .ok (.aaload, 1) ∧ decode cX0_copy 141 = .ok (.aload_n 1, 1) ∧ decode cX0_copy 142 = .ok (.getfield 51, 3) ∧ decode cX0_copy 145 = .ok (.iload_n 2, 1) ∧ decode cX0_copy 146 = .ok (.aaload, 1) ∧ decode cX0_copy 147 = .ok (.invokevirtual 77, 3) := by decide +kernel
theorem e_X0_copy_8 : decode cX0_copy 150 = .ok (.iinc 2 1, 3) ∧ decode cX0_copy 153 = .ok (.goto (-26), 3) ∧ decode cX0_copy 156 = .ok (.iconst 0, 1) ∧ decode cX0_copy 157 = .ok (.istore_n 2, 1) ∧ decode cX0_copy 158 = .ok (.iload_n 2, 1) ∧ decode cX0_copy 159 = .ok (.aload_n 0, 1) ∧ decode cX0_copy 160 = .ok (.getfield 33, 3) ∧ decode cX0_copy 163 = .ok (.if_icmp .ge 24, 3) ∧ decode cX0_copy 166 = .ok (.aload_n 0, 1) ∧ decode cX0_copy 167 = .ok (.getfield 57, 3) := by decide +kernel
theorem e_X0_copy_9 : decode cX0_copy 170 = .ok (.iload_n 2, 1) ∧ decode cX0_copy 171 = .ok (.aaload, 1) ∧ decode cX0_copy 172 = .ok (.aload_n 1, 1) ∧ decode cX0_copy 173 = .ok (.getfield 57, 3) ∧ decode cX0_copy 176 = .ok (.iload_n 2, 1) ∧ decode cX0_copy 177 = .ok (.aaload, 1) ∧ decode cX0_copy 178 = .ok (.invokevirtual 80, 3) ∧ decode cX0_copy 181 = .ok (.iinc 2 1, 3) ∧ decode cX0_copy 184 = .ok (.goto (-26), 3) ∧ decode cX0_copy 187 = .ok (.return_, 1) := by decide +kernel
abbrev E_X0_copy_96 (G : Kg) (c c2 l2 : Int) (σ : Kmem) (Q : Int → Kmem → Prop) : Prop := Ex G WX M_X0_copy 1 0 0 96 [(0, vA G c), (1, vA G c2), (2, vI l2)] [] σ Q
abbrev E_X0_copy_127 (G : Kg) (c c2 l2 : Int) (σ : Kmem) (Q : Int → Kmem → Prop) : Prop := Ex G WX M_X0_copy 1 0 0 127 [(0, vA G c), (1, vA G c2), (2, vI l2)] [] σ Q
abbrev E_X0_copy_158 (G : Kg) (c c2 l2 : Int) (σ : Kmem) (Q : Int → Kmem → Prop) : Prop := Ex G WX M_X0_copy 1 0 0 158 [(0, vA G c), (1, vA G c2), (2, vI l2)] [] σ Q
theorem S_X0_copy {G : Kg} {σ : Kmem} {Q : Int → Kmem → Prop} {c c2 : Int} (hc : isC c) (hc2 : isC c2) (h : (((0 : Int) ≤ 0 ∧ (0 : Int) ≤ 0 ∧ (0 : Int) ≤ 12) ∧ (0 : Int) + 12 ≤ 12 ∧ (0 : Int) + 12 ≤ 12) ∧ (((0 : Int) ≤ 0 ∧ (0 : Int) ≤ 0 ∧ (0 : Int) ≤ 12) ∧ (0 : Int) + 12 ≤ 12 ∧ (0 : Int) + 12 ≤ 12) ∧ E_X0_copy_96 G c c2 0 (kcpy (kcpy (kup (kup (kup (kup (kup (kup (kup (kup σ c 0 (σ c2 0)) c 1 ((kup σ c 0 (σ c2 0)) c2 1)) c 2 ((kup (kup σ c 0 (σ c2 0)) c 1 ((kup σ c 0 (σ c2 0)) c2 1)) c2 2)) c 3 ((kup (kup (kup σ c 0 (σ c2 0)) c 1 ((kup σ c 0 (σ c2 0)) c2 1)) c 2 ((kup (kup σ c 0 (σ c2 0)) c 1 ((kup σ c 0 (σ c2 0)) c2 1)) c2 2)) c2 3)) c 4 ((kup (kup (kup (kup σ c 0 (σ c2 0)) c 1 ((kup σ c 0 (σ c2 0)) c2 1)) c 2 ((kup (kup σ c 0 (σ c2 0)) c 1 ((kup σ c 0 (σ c2 0)) c2 1)) c2 2)) c 3 ((kup (kup (kup σ c 0 (σ c2 0)) c 1 ((kup σ c 0 (σ c2 0)) c2 1)) c 2 ((kup (kup σ c 0 (σ c2 0)) c 1 ((kup σ c 0 (σ c2 0)) c2 1)) c2 2)) c2 3)) c2 4)) c 5 ((kup (kup (kup (kup (kup σ c 0 (σ c2 0)) c 1 ((kup σ c 0 (σ c2 0)) c2 1)) c 2 ((kup (kup σ c 0 (σ c2 0)) c 1 ((kup σ c 0 (σ c2 0)) c2 1)) c2 2)) c 3 ((kup (kup (kup σ c 0 (σ c2 0)) c 1 ((kup σ c 0 (σ c2 0)) c2 1)) c 2 ((kup (kup σ c 0 (σ c2 0)) c 1 ((kup σ c 0 (σ c2 0)) c2 1)) c2 2)) c2 3)) c 4 ((kup (kup (kup (kup σ c 0 (σ c2 0)) c 1 ((kup σ c 0 (σ c2 0)) c2 1)) c 2 ((kup (kup σ c 0 (σ c2 0)) c 1 ((kup σ c 0 (σ c2 0)) c2 1)) c2 2)) c 3 ((kup (kup (kup σ c 0 (σ c2 0)) c 1 ((kup σ c 0 (σ c2 0)) c2 1)) c 2 ((kup (kup σ c 0 (σ c2 0)) c 1 ((kup σ c 0 (σ c2 0)) c2 1)) c2 2)) c2 3)) c2 4)) c2 5)) c 6 ((kup (kup (kup (kup (kup (kup σ c 0 (σ c2 0)) c 1 ((kup σ c 0 (σ c2 0)) c2 1)) c 2 ((kup (kup σ c 0 (σ c2 0)) c 1 ((kup σ c 0 (σ c2 0)) c2 1)) c2 2)) c 3 ((kup (kup (kup σ c 0 (σ c2 0)) c 1 ((kup σ c 0 (σ c2 0)) c2 1)) c 2 ((kup (kup σ c 0 (σ c2 0)) c 1 ((kup σ c 0 (σ c2 0)) c2 1)) c2 2)) c2 3)) c 4 ((kup (kup (kup (kup σ c 0 (σ c2 0)) c 1 ((kup σ c 0 (σ c2 0)) c2 1)) c 2 ((kup (kup σ c 0 (σ c2 0)) c 1 ((kup σ c 0 (σ c2 0)) c2 1)) c2 2)) c 3 ((kup (kup (kup σ c 0 (σ c2 0)) c 1 ((kup σ c 0 (σ c2 0)) c2 1)) c 2 ((kup (kup σ c 0 (σ c2 0)) c 1 ((kup σ c 0 (σ c2 0)) c2 1)) c2 2)) c2 3)) c2 4)) c 5 ((kup (kup (kup (kup (kup σ c 0 (σ c2 0)) c 1 ((kup σ c 0 (σ c2 0)) c2 1)) c 2 ((kup (kup σ c 0 (σ c2 0)) c 1 ((kup σ c 0 (σ c2 0)) c2 1)) c2 2)) c 3 ((kup (kup (kup σ c 0 (σ c2 0)) c 1 ((kup σ c 0 (σ c2 0)) c2 1)) c 2 ((kup (kup σ c 0 (σ c2 0)) c 1 ((kup σ c 0 (σ c2 0)) c2 1)) c2 2)) c2 3)) c 4 ((kup (kup (kup (kup σ c 0 (σ c2 0)) c 1 ((kup σ c 0 (σ c2 0)) c2 1)) c 2 ((kup (kup σ c 0 (σ c2 0)) c 1 ((kup σ c 0 (σ c2 0)) c2 1)) c2 2)) c 3 ((kup (kup (kup σ c 0 (σ c2 0)) c 1 ((kup σ c 0 (σ c2 0)) c2 1)) c 2 ((kup (kup σ c 0 (σ c2 0)) c 1 ((kup σ c 0 (σ c2 0)) c2 1)) c2 2)) c2 3)) c2 4)) c2 5)) c2 6)) c 7 ((kup (kup (kup (kup (kup (kup (kup σ c 0 (σ c2 0)) c 1 ((kup σ c 0 (σ c2 0)) c2 1)) c 2 ((kup (kup σ c 0 (σ c2 0)) c 1 ((kup σ c 0 (σ c2 0)) c2 1)) c2 2)) c 3 ((kup (kup (kup σ c 0 (σ c2 0)) c 1 ((kup σ c 0 (σ c2 0)) c2 1)) c 2 ((kup (kup σ c 0 (σ c2 0)) c 1 ((kup σ c 0 (σ c2 0)) c2 1)) c2 2)) c2 3)) c 4 ((kup (kup (kup (kup σ c 0 (σ c2 0)) c 1 ((kup σ c 0 (σ c2 0)) c2 1)) c 2 ((kup (kup σ c 0 (σ c2 0)) c 1 ((kup σ c 0 (σ c2 0)) c2 1)) c2 2)) c 3 ((kup (kup (kup σ c 0 (σ c2 0)) c 1 ((kup σ c 0 (σ c2 0)) c2 1)) c 2 ((kup (kup σ c 0 (σ c2 0)) c 1 ((kup σ c 0 (σ c2 0)) c2 1)) c2 2)) c2 3)) c2 4)) c 5 ((kup (kup (kup (kup (kup σ c 0 (σ c2 0)) c 1 ((kup σ c 0 (σ c2 0)) c2 1)) c 2 ((kup (kup σ c 0 (σ c2 0)) c 1 ((kup σ c 0 (σ c2 0)) c2 1)) c2 2)) c 3 ((kup (kup (kup σ c 0 (σ c2 0)) c 1 ((kup σ c 0 (σ c2 0)) c2 1)) c 2 ((kup (kup σ c 0 (σ c2 0)) c 1 ((kup σ c 0 (σ c2 0)) c2 1)) c2 2)) c2 3)) c 4 ((kup (kup (kup (kup σ c 0 (σ c2 0)) c 1 ((kup σ c 0 (σ c2 0)) c2 1)) c 2 ((kup (kup σ c 0 (σ c2 0)) c 1 ((kup σ c 0 (σ c2 0)) c2 1)) c2 2)) c 3 ((kup (kup (kup σ c 0 (σ c2 0)) c 1 ((kup σ c 0 (σ c2 0)) c2 1)) c 2 ((kup (kup σ c 0 (σ c2 0)) c 1 ((kup σ c 0 (σ c2 0)) c2 1)) c2 2)) c2 3)) c2 4)) c2 5)) c 6 ((kup (kup (kup (kup (kup (kup σ c 0 (σ c2 0)) c 1 ((kup σ c 0 (σ c2 0)) c2 1)) c 2 ((kup (kup σ c 0 (σ c2 0)) c 1 ((kup σ c 0 (σ c2 0)) c2 1)) c2 2)) c 3 ((kup (kup (kup σ c 0 (σ c2 0)) c 1 ((kup σ c 0 (σ c2 0)) c2 1)) c 2 ((kup (kup σ c 0 (σ c2 0)) c 1 ((kup σ c 0 (σ c2 0)) c2 1)) c2 2)) c2 3)) c 4 ((kup (kup (kup (kup σ c 0 (σ c2 0)) c 1 ((kup σ c 0 (σ c2 0)) c2 1)) c 2 ((kup (kup σ c 0 (σ c2 0)) c 1 ((kup σ c 0 (σ c2 0)) c2 1)) c2 2)) c 3 ((kup (kup (kup σ c 0 (σ c2 0)) c 1 ((kup σ c 0 (σ c2 0)) c2 1)) c 2 ((kup (kup σ c 0 (σ c2 0)) c 1 ((kup σ c 0 (σ c2 0)) c2 1)) c2 2)) c2 3)) c2 4)) c 5 ((kup (kup (kup (kup (kup σ c 0 (σ c2 0)) c 1 ((kup σ c 0 (σ c2 0)) c2 1)) c 2 ((kup (kup σ c 0 (σ c2 0)) c 1 ((kup σ c 0 (σ c2 0)) c2 1)) c2 2)) c 3 ((kup (kup (kup σ c 0 (σ c2 0)) c 1 ((kup σ c 0 (σ c2 0)) c2 1)) c 2 ((kup (kup σ c 0 (σ c2 0)) c 1 ((kup σ c 0 (σ c2 0)) c2 1)) c2 2)) c2 3)) c 4 ((kup (kup (kup (kup σ c 0 (σ c2 0)) c 1 ((kup σ c 0 (σ c2 0)) c2 1)) c 2 ((kup (kup σ c 0 (σ c2 0)) c 1 ((kup σ c 0 (σ c2 0)) c2 1)) c2 2)) c 3 ((kup (kup (kup σ c 0 (σ c2 0)) c 1 ((kup σ c 0 (σ c2 0)) c2 1)) c 2 ((kup (kup σ c 0 (σ c2 0)) c 1 ((kup σ c 0 (σ c2 0)) c2 1)) c2 2)) c2 3)) c2 4)) c2 5)) c2 6)) c2 7)) (c2 + 1) 0 (c + 1) 0 12) (c2 + 2) 0 (c + 2) 0 12) Q) : Run G WX M_X0_copy 1 0 0 [vA G c, vA G c2] σ Q := by
  refine Run.of (by decide +kernel) (by show (2 : Nat) ≤ 3; decide) ?_
  show Ex G WX M_X0_copy 1 0 0 0 [(0, vA G c), (1, vA G c2)] [] σ Q
  refine R_aload_n e_X0_copy_0.1 0 rfl ?_
  refine R_aload_n e_X0_copy_0.2.1 1 rfl ?_
  refine R_getI 0 0 0 e_X0_copy_0.2.2.1 f_X0_9 (kC_self hc2) (fun _ _ => rfl) rfl ?_
  refine R_putI 0 0 0 WX_ok e_X0_copy_0.2.2.2.1 f_X0_9 (kC_self hc) rfl rfl rfl ?_
  refine R_aload_n e_X0_copy_0.2.2.2.2.1 0 rfl ?_
  refine R_aload_n e_X0_copy_0.2.2.2.2.2.1 1 rfl ?_
  refine R_getI 0 1 1 e_X0_copy_0.2.2.2.2.2.2.1 f_X0_15 (kC_self hc2) (fun _ _ => rfl) rfl ?_
  refine R_putI 0 1 1 WX_ok e_X0_copy_0.2.2.2.2.2.2.2.1 f_X0_15 (kC_self hc) rfl rfl rfl ?_
  refine R_aload_n e_X0_copy_0.2.2.2.2.2.2.2.2.1 0 rfl ?_
  refine R_aload_n e_X0_copy_0.2.2.2.2.2.2.2.2.2 1 rfl ?_
  refine R_getI 0 2 2 e_X0_copy_1.1 f_X0_18 (kC_self hc2) (fun _ _ => rfl) rfl ?_
  refine R_putI 0 2 2 WX_ok e_X0_copy_1.2.1 f_X0_18 (kC_self hc) rfl rfl rfl ?_
  refine R_aload_n e_X0_copy_1.2.2.1 0 rfl ?_
  refine R_aload_n e_X0_copy_1.2.2.2.1 1 rfl ?_
  refine R_getI 0 3 3 e_X0_copy_1.2.2.2.2.1 f_X0_21 (kC_self hc2) (fun _ _ => rfl) rfl ?_
  refine R_putI 0 3 3 WX_ok e_X0_copy_1.2.2.2.2.2.1 f_X0_21 (kC_self hc) rfl rfl rfl ?_
  refine R_aload_n e_X0_copy_1.2.2.2.2.2.2.1 0 rfl ?_
  refine R_aload_n e_X0_copy_1.2.2.2.2.2.2.2.1 1 rfl ?_
  refine R_getI 0 4 4 e_X0_copy_1.2.2.2.2.2.2.2.2.1 f_X0_24 (kC_self hc2) (fun _ _ => rfl) rfl ?_
  refine R_putI 0 4 4 WX_ok e_X0_copy_1.2.2.2.2.2.2.2.2.2 f_X0_24 (kC_self hc) rfl rfl rfl ?_
  refine R_aload_n e_X0_copy_2.1 0 rfl ?_
  refine R_aload_n e_X0_copy_2.2.1 1 rfl ?_
  refine R_getI 0 5 5 e_X0_copy_2.2.2.1 f_X0_27 (kC_self hc2) (fun _ _ => rfl) rfl ?_
  refine R_putI 0 5 5 WX_ok e_X0_copy_2.2.2.2.1 f_X0_27 (kC_self hc) rfl rfl rfl ?_
  refine R_aload_n e_X0_copy_2.2.2.2.2.1 0 rfl ?_
  refine R_aload_n e_X0_copy_2.2.2.2.2.2.1 1 rfl ?_
  refine R_getI 0 6 6 e_X0_copy_2.2.2.2.2.2.2.1 f_X0_30 (kC_self hc2) (fun _ _ => rfl) rfl ?_
  refine R_putI 0 6 6 WX_ok e_X0_copy_2.2.2.2.2.2.2.2.1 f_X0_30 (kC_self hc) rfl rfl rfl ?_
  refine R_aload_n e_X0_copy_2.2.2.2.2.2.2.2.2.1 0 rfl ?_
  refine R_aload_n e_X0_copy_2.2.2.2.2.2.2.2.2.2 1 rfl ?_
  refine R_getI 0 7 7 e_X0_copy_3.1 f_X0_33 (kC_self hc2) (fun _ _ => rfl) rfl ?_
  refine R_putI 0 7 7 WX_ok e_X0_copy_3.2.1 f_X0_33 (kC_self hc) rfl rfl rfl ?_
  refine R_aload_n e_X0_copy_3.2.2.1 1 rfl ?_
  refine R_getA 0 8 (c2 + 1) e_X0_copy_3.2.2.2.1 f_X0_36 (kC_self hc2) (fun _ _ => rfl) (kC_r8 hc2) (kC_n1 hc2) ?_
  refine R_iconst e_X0_copy_3.2.2.2.2.1 ?_
  refine R_aload_n e_X0_copy_3.2.2.2.2.2.1 0 rfl ?_
  refine R_getA 0 8 (c + 1) e_X0_copy_3.2.2.2.2.2.2.1 f_X0_36 (kC_self hc) (fun _ _ => rfl) (kC_r8 hc) (kC_n1 hc) ?_
  refine R_iconst e_X0_copy_3.2.2.2.2.2.2.2.1 ?_
  refine R_bipush e_X0_copy_3.2.2.2.2.2.2.2.2.1 (by decide) ?_
  obtain ⟨q1, h⟩ := h
  refine R_copyI 12 12 rfl WX_rd e_X0_copy_3.2.2.2.2.2.2.2.2.2 (kC_dirs hc2) (kC_dirs hc) q1 l_cp_X0_67 (by decide) (by show (0 : Nat) ≤ 8; decide) ?_
  refine R_aload_n e_X0_copy_4.1 1 rfl ?_
  refine R_getA 0 9 (c2 + 2) e_X0_copy_4.2.1 f_X0_40 (kC_self hc2) (fun _ _ => rfl) (kC_r9 hc2) (kC_n2 hc2) ?_
  refine R_iconst e_X0_copy_4.2.2.1 ?_
  refine R_aload_n e_X0_copy_4.2.2.2.1 0 rfl ?_
  refine R_getA 0 9 (c + 2) e_X0_copy_4.2.2.2.2.1 f_X0_40 (kC_self hc) (fun _ _ => rfl) (kC_r9 hc) (kC_n2 hc) ?_
  refine R_iconst e_X0_copy_4.2.2.2.2.2.1 ?_
  refine R_bipush e_X0_copy_4.2.2.2.2.2.2.1 (by decide) ?_
  obtain ⟨q2, h⟩ := h
  refine R_copyI 12 12 rfl WX_rd e_X0_copy_4.2.2.2.2.2.2.2.1 (kC_forces hc2) (kC_forces hc) q2 l_cp_X0_67 (by decide) (by show (0 : Nat) ≤ 8; decide) ?_
  refine R_iconst e_X0_copy_4.2.2.2.2.2.2.2.2.1 ?_
  refine R_istore_n (ls2 := [(2, vI 0), (0, vA G c), (1, vA G c2)]) e_X0_copy_4.2.2.2.2.2.2.2.2.2 (by decide) rfl ?_
  refine R_ls (ls2 := [(0, vA G c), (1, vA G c2), (2, vI 0)]) [1, 2, 0] rfl ?_
  exact h
theorem S_X0_copy_96 {G : Kg} {σ : Kmem} {Q : Int → Kmem → Prop} {c c2 l2 : Int} (hc : isC c) (hc2 : isC c2) (h : (rI l2) ∧ (rI (σ c 5)) ∧ ((σ c 5 ≤ l2 → E_X0_copy_127 G c c2 0 σ Q) ∧ (l2 < σ c 5 → (0 ≤ l2 ∧ l2 < 6) ∧ (0 ≤ l2 ∧ l2 < 6) ∧ Run G WX M_X3_copy 0 0 0 [vA G (c + 6 + l2), vA G (c2 + 6 + l2)] σ (fun r7 s8 => E_X0_copy_96 G c c2 (l2 + 1) s8 Q)))) : E_X0_copy_96 G c c2 l2 σ Q := by
  refine R_iload_n e_X0_copy_5.1 2 rfl ?_
  refine R_aload_n e_X0_copy_5.2.1 0 rfl ?_
  refine R_getI 0 5 5 e_X0_copy_5.2.2.1 f_X0_27 (kC_self hc) (fun _ _ => rfl) rfl ?_
  obtain ⟨q3, h⟩ := h
  obtain ⟨q4, h⟩ := h
  refine R_icmp_ge 125 e_X0_copy_5.2.2.2.1 (by decide) q3 q4 (fun q => ?_) (fun q => ?_)
  · replace h := h.1 q
    refine R_iconst e_X0_copy_6.2.2.2.2.2.1 ?_
    refine R_istore_n (ls2 := [(2, vI 0), (0, vA G c), (1, vA G c2)]) e_X0_copy_6.2.2.2.2.2.2.1 (by decide) rfl ?_
    refine R_ls (ls2 := [(0, vA G c), (1, vA G c2), (2, vI 0)]) [1, 2, 0] rfl ?_
    exact h
  · replace h := h.2 q
    refine R_aload_n e_X0_copy_5.2.2.2.2.1 0 rfl ?_
    refine R_getA 0 10 (c + 3) e_X0_copy_5.2.2.2.2.2.1 f_X0_45 (kC_self hc) (fun _ _ => rfl) (kC_r10 hc) (kC_n3 hc) ?_
    refine R_iload_n e_X0_copy_5.2.2.2.2.2.2.1 2 rfl ?_
    obtain ⟨q5, h⟩ := h
    refine R_aald 27 6 (c + 6 + l2) e_X0_copy_5.2.2.2.2.2.2.2.1 (by decide) (kC_kites hc) q5 (kC_kiteAt hc q5) (kC_kiteN hc q5) ?_
    refine R_aload_n e_X0_copy_5.2.2.2.2.2.2.2.2.1 1 rfl ?_
    refine R_getA 0 10 (c2 + 3) e_X0_copy_5.2.2.2.2.2.2.2.2.2 f_X0_45 (kC_self hc2) (fun _ _ => rfl) (kC_r10 hc2) (kC_n3 hc2) ?_
    refine R_iload_n e_X0_copy_6.1 2 rfl ?_
    obtain ⟨q6, h⟩ := h
    refine R_aald 27 6 (c2 + 6 + l2) e_X0_copy_6.2.1 (by decide) (kC_kites hc2) q6 (kC_kiteAt hc2 q6) (kC_kiteN hc2 q6) ?_
    refine R_callV (mc := 0) (ms := 0) (mc' := 0) (ms' := 0) (M' := M_X3_copy) (d' := 0) (as := [vA G (c2 + 6 + l2)]) (st := []) 3 1 e_X0_copy_6.2.2.1 (kCVof m_X3_copy l_X0_73) rfl (by decide) (kC_kite hc q5) (by decide) (by decide) rfl rfl (by show (0 : Nat) ≤ 8; decide) ?_
    refine Run.mono h (fun r7 s8 h => ?_)
    refine R_eqs (st2 := []) rfl rfl ?_
    refine R_iinc (ls2 := [(2, vI (l2 + 1)), (0, vA G c), (1, vA G c2)]) e_X0_copy_6.2.2.2.1 2 rfl (by decide) rfl ?_
    refine R_goto 96 e_X0_copy_6.2.2.2.2.1 (by decide) ?_
    refine R_ls (ls2 := [(0, vA G c), (1, vA G c2), (2, vI (l2 + 1))]) [1, 2, 0] rfl ?_
    exact h
theorem S_X0_copy_127 {G : Kg} {σ : Kmem} {Q : Int → Kmem → Prop} {c c2 l2 : Int} (hc : isC c) (hc2 : isC c2) (h : (rI l2) ∧ (rI (σ c 6)) ∧ ((σ c 6 ≤ l2 → E_X0_copy_158 G c c2 0 σ Q) ∧ (l2 < σ c 6 → (0 ≤ l2 ∧ l2 < 8) ∧ (0 ≤ l2 ∧ l2 < 8) ∧ Run G WX M_X2_copy 0 0 0 [vA G (c + 12 + l2), vA G (c2 + 12 + l2)] σ (fun r13 s14 => E_X0_copy_127 G c c2 (l2 + 1) s14 Q)))) : E_X0_copy_127 G c c2 l2 σ Q := by
  refine R_iload_n e_X0_copy_6.2.2.2.2.2.2.2.1 2 rfl ?_
  refine R_aload_n e_X0_copy_6.2.2.2.2.2.2.2.2.1 0 rfl ?_
  refine R_getI 0 6 6 e_X0_copy_6.2.2.2.2.2.2.2.2.2 f_X0_30 (kC_self hc) (fun _ _ => rfl) rfl ?_
  obtain ⟨q9, h⟩ := h
  obtain ⟨q10, h⟩ := h
  refine R_icmp_ge 156 e_X0_copy_7.1 (by decide) q9 q10 (fun q => ?_) (fun q => ?_)
  · replace h := h.1 q
    refine R_iconst e_X0_copy_8.2.2.1 ?_
    refine R_istore_n (ls2 := [(2, vI 0), (0, vA G c), (1, vA G c2)]) e_X0_copy_8.2.2.2.1 (by decide) rfl ?_
    refine R_ls (ls2 := [(0, vA G c), (1, vA G c2), (2, vI 0)]) [1, 2, 0] rfl ?_
    exact h
  · replace h := h.2 q
    refine R_aload_n e_X0_copy_7.2.1 0 rfl ?_
    refine R_getA 0 11 (c + 4) e_X0_copy_7.2.2.1 f_X0_51 (kC_self hc) (fun _ _ => rfl) (kC_r11 hc) (kC_n4 hc) ?_
    refine R_iload_n e_X0_copy_7.2.2.2.1 2 rfl ?_
    obtain ⟨q11, h⟩ := h
    refine R_aald 28 8 (c + 12 + l2) e_X0_copy_7.2.2.2.2.1 (by decide) (kC_crops hc) q11 (kC_cropAt hc q11) (kC_cropN hc q11) ?_
    refine R_aload_n e_X0_copy_7.2.2.2.2.2.1 1 rfl ?_
    refine R_getA 0 11 (c2 + 4) e_X0_copy_7.2.2.2.2.2.2.1 f_X0_51 (kC_self hc2) (fun _ _ => rfl) (kC_r11 hc2) (kC_n4 hc2) ?_
    refine R_iload_n e_X0_copy_7.2.2.2.2.2.2.2.1 2 rfl ?_
    obtain ⟨q12, h⟩ := h
    refine R_aald 28 8 (c2 + 12 + l2) e_X0_copy_7.2.2.2.2.2.2.2.2.1 (by decide) (kC_crops hc2) q12 (kC_cropAt hc2 q12) (kC_cropN hc2 q12) ?_
    refine R_callV (mc := 0) (ms := 0) (mc' := 0) (ms' := 0) (M' := M_X2_copy) (d' := 0) (as := [vA G (c2 + 12 + l2)]) (st := []) 2 1 e_X0_copy_7.2.2.2.2.2.2.2.2.2 (kCVof m_X2_copy l_X0_77) rfl (by decide) (kC_crop hc q11) (by decide) (by decide) rfl rfl (by show (0 : Nat) ≤ 8; decide) ?_
    refine Run.mono h (fun r13 s14 h => ?_)
    refine R_eqs (st2 := []) rfl rfl ?_
    refine R_iinc (ls2 := [(2, vI (l2 + 1)), (0, vA G c), (1, vA G c2)]) e_X0_copy_8.1 2 rfl (by decide) rfl ?_
    refine R_goto 127 e_X0_copy_8.2.1 (by decide) ?_
    refine R_ls (ls2 := [(0, vA G c), (1, vA G c2), (2, vI (l2 + 1))]) [1, 2, 0] rfl ?_
    exact h
theorem S_X0_copy_158 {G : Kg} {σ : Kmem} {Q : Int → Kmem → Prop} {c c2 l2 : Int} (hc : isC c) (hc2 : isC c2) (h : (rI l2) ∧ (rI (σ c 7)) ∧ ((σ c 7 ≤ l2 → Q 0 σ) ∧ (l2 < σ c 7 → (0 ≤ l2 ∧ l2 < 6) ∧ (0 ≤ l2 ∧ l2 < 6) ∧ Run G WX M_X9_copy 0 0 0 [vA G (c + 20 + l2), vA G (c2 + 20 + l2)] σ (fun r19 s20 => E_X0_copy_158 G c c2 (l2 + 1) s20 Q)))) : E_X0_copy_158 G c c2 l2 σ Q := by
  refine R_iload_n e_X0_copy_8.2.2.2.2.1 2 rfl ?_
  refine R_aload_n e_X0_copy_8.2.2.2.2.2.1 0 rfl ?_
  refine R_getI 0 7 7 e_X0_copy_8.2.2.2.2.2.2.1 f_X0_33 (kC_self hc) (fun _ _ => rfl) rfl ?_
  obtain ⟨q15, h⟩ := h
  obtain ⟨q16, h⟩ := h
  refine R_icmp_ge 187 e_X0_copy_8.2.2.2.2.2.2.2.1 (by decide) q15 q16 (fun q => ?_) (fun q => ?_)
  · replace h := h.1 q
    exact R_return e_X0_copy_9.2.2.2.2.2.2.2.2.2 rfl h
  · replace h := h.2 q
    refine R_aload_n e_X0_copy_8.2.2.2.2.2.2.2.2.1 0 rfl ?_
    refine R_getA 0 12 (c + 5) e_X0_copy_8.2.2.2.2.2.2.2.2.2 f_X0_57 (kC_self hc) (fun _ _ => rfl) (kC_r12 hc) (kC_n5 hc) ?_
    refine R_iload_n e_X0_copy_9.1 2 rfl ?_
    obtain ⟨q17, h⟩ := h
    refine R_aald 29 6 (c + 20 + l2) e_X0_copy_9.2.1 (by decide) (kC_tens hc) q17 (kC_tenAt hc q17) (kC_tenN hc q17) ?_
    refine R_aload_n e_X0_copy_9.2.2.1 1 rfl ?_
    refine R_getA 0 12 (c2 + 5) e_X0_copy_9.2.2.2.1 f_X0_57 (kC_self hc2) (fun _ _ => rfl) (kC_r12 hc2) (kC_n5 hc2) ?_
    refine R_iload_n e_X0_copy_9.2.2.2.2.1 2 rfl ?_
    obtain ⟨q18, h⟩ := h
    refine R_aald 29 6 (c2 + 20 + l2) e_X0_copy_9.2.2.2.2.2.1 (by decide) (kC_tens hc2) q18 (kC_tenAt hc2 q18) (kC_tenN hc2 q18) ?_
    refine R_callV (mc := 0) (ms := 0) (mc' := 0) (ms' := 0) (M' := M_X9_copy) (d' := 0) (as := [vA G (c2 + 20 + l2)]) (st := []) 9 1 e_X0_copy_9.2.2.2.2.2.2.1 (kCVof m_X9_copy l_X0_80) rfl (by decide) (kC_ten hc q17) (by decide) (by decide) rfl rfl (by show (0 : Nat) ≤ 8; decide) ?_
    refine Run.mono h (fun r19 s20 h => ?_)
    refine R_eqs (st2 := []) rfl rfl ?_
    refine R_iinc (ls2 := [(2, vI (l2 + 1)), (0, vA G c), (1, vA G c2)]) e_X0_copy_9.2.2.2.2.2.2.2.1 2 rfl (by decide) rfl ?_
    refine R_goto 158 e_X0_copy_9.2.2.2.2.2.2.2.2.1 (by decide) ?_
    refine R_ls (ls2 := [(0, vA G c), (1, vA G c2), (2, vI (l2 + 1))]) [1, 2, 0] rfl ?_
    exact h
/-! KiteLand$County.hasLand()Z -/
theorem e_X0_hasLand_0 : decode cX0_hasLand 0 = .ok (.aload_n 0, 1) ∧ decode cX0_hasLand 1 = .ok (.getfield 9, 3) ∧ decode cX0_hasLand 4 = .ok (.ifCond .le 14, 3) ∧ decode cX0_hasLand 7 = .ok (.aload_n 0, 1) ∧ decode cX0_hasLand 8 = .ok (.getfield 15, 3) ∧ decode cX0_hasLand 11 = .ok (.ifCond .le 7, 3) ∧ decode cX0_hasLand 14 = .ok (.iconst 1, 1) ∧ decode cX0_hasLand 15 = .ok (.goto 4, 3) ∧ decode cX0_hasLand 18 = .ok (.iconst 0, 1) ∧ decode cX0_hasLand 19 = .ok (.ireturn, 1) := by decide +kernel
theorem S_X0_hasLand {G : Kg} {σ : Kmem} {Q : Int → Kmem → Prop} {c : Int} (hc : isC c) (h : (rI (σ c 0)) ∧ ((σ c 0 ≤ 0 → Q 0 σ) ∧ (0 < σ c 0 → (rI (σ c 1)) ∧ ((σ c 1 ≤ 0 → Q 0 σ) ∧ (0 < σ c 1 → Q 1 σ))))) : Run G WX M_X0_hasLand 0 0 0 [vA G c] σ Q := by
  refine Run.of (by decide +kernel) (by show (1 : Nat) ≤ 1; decide) ?_
  show Ex G WX M_X0_hasLand 0 0 0 0 [(0, vA G c)] [] σ Q
  refine R_aload_n e_X0_hasLand_0.1 0 rfl ?_
  refine R_getI 0 0 0 e_X0_hasLand_0.2.1 f_X0_9 (kC_self hc) (fun _ _ => rfl) rfl ?_
  obtain ⟨q1, h⟩ := h
  refine R_if_le 18 e_X0_hasLand_0.2.2.1 (by decide) q1  (fun q => ?_) (fun q => ?_)
  · replace h := h.1 q
    refine R_iconst e_X0_hasLand_0.2.2.2.2.2.2.2.2.1 ?_
    exact R_zreturn e_X0_hasLand_0.2.2.2.2.2.2.2.2.2 rfl (Or.inl rfl) h
  · replace h := h.2 q
    refine R_aload_n e_X0_hasLand_0.2.2.2.1 0 rfl ?_
    refine R_getI 0 1 1 e_X0_hasLand_0.2.2.2.2.1 f_X0_15 (kC_self hc) (fun _ _ => rfl) rfl ?_
    obtain ⟨q2, h⟩ := h
    refine R_if_le 18 e_X0_hasLand_0.2.2.2.2.2.1 (by decide) q2  (fun q => ?_) (fun q => ?_)
    · replace h := h.1 q
      refine R_iconst e_X0_hasLand_0.2.2.2.2.2.2.2.2.1 ?_
      exact R_zreturn e_X0_hasLand_0.2.2.2.2.2.2.2.2.2 rfl (Or.inl rfl) h
    · replace h := h.2 q
      refine R_iconst e_X0_hasLand_0.2.2.2.2.2.2.1 ?_
      refine R_goto 19 e_X0_hasLand_0.2.2.2.2.2.2.2.1 (by decide) ?_
      exact R_zreturn e_X0_hasLand_0.2.2.2.2.2.2.2.2.2 rfl (Or.inr rfl) h
/-! KiteLand$County.hasKite(I)Z -/
theorem e_X0_hasKite_0 : decode cX0_hasKite 0 = .ok (.iload_n 1, 1) ∧ decode cX0_hasKite 1 = .ok (.ifCond .lt 15, 3) ∧ decode cX0_hasKite 4 = .ok (.iload_n 1, 1) ∧ decode cX0_hasKite 5 = .ok (.aload_n 0, 1) ∧ decode cX0_hasKite 6 = .ok (.getfield 27, 3) ∧ decode cX0_hasKite 9 = .ok (.if_icmp .ge 7, 3) ∧ decode cX0_hasKite 12 = .ok (.iconst 1, 1) ∧ decode cX0_hasKite 13 = .ok (.goto 4, 3) ∧ decode cX0_hasKite 16 = .ok (.iconst 0, 1) ∧ decode cX0_hasKite 17 = .ok (.ireturn, 1) := by decide +kernel
theorem S_X0_hasKite {G : Kg} {σ : Kmem} {Q : Int → Kmem → Prop} {c l1 : Int} (hc : isC c) (h : (rI l1) ∧ ((l1 < 0 → Q 0 σ) ∧ (0 ≤ l1 → (rI (σ c 5)) ∧ ((σ c 5 ≤ l1 → Q 0 σ) ∧ (l1 < σ c 5 → Q 1 σ))))) : Run G WX M_X0_hasKite 0 0 0 [vA G c, vI l1] σ Q := by
  refine Run.of (by decide +kernel) (by show (2 : Nat) ≤ 2; decide) ?_
  show Ex G WX M_X0_hasKite 0 0 0 0 [(0, vA G c), (1, vI l1)] [] σ Q
  refine R_iload_n e_X0_hasKite_0.1 1 rfl ?_
  obtain ⟨q1, h⟩ := h
  refine R_if_lt 16 e_X0_hasKite_0.2.1 (by decide) q1  (fun q => ?_) (fun q => ?_)
  · replace h := h.1 q
    refine R_iconst e_X0_hasKite_0.2.2.2.2.2.2.2.2.1 ?_
    exact R_zreturn e_X0_hasKite_0.2.2.2.2.2.2.2.2.2 rfl (Or.inl rfl) h
  · replace h := h.2 q
    refine R_iload_n e_X0_hasKite_0.2.2.1 1 rfl ?_
    refine R_aload_n e_X0_hasKite_0.2.2.2.1 0 rfl ?_
    refine R_getI 0 5 5 e_X0_hasKite_0.2.2.2.2.1 f_X0_27 (kC_self hc) (fun _ _ => rfl) rfl ?_
    obtain ⟨q2, h⟩ := h
    refine R_icmp_ge 16 e_X0_hasKite_0.2.2.2.2.2.1 (by decide) q1 q2 (fun q => ?_) (fun q => ?_)
    · replace h := h.1 q
      refine R_iconst e_X0_hasKite_0.2.2.2.2.2.2.2.2.1 ?_
      exact R_zreturn e_X0_hasKite_0.2.2.2.2.2.2.2.2.2 rfl (Or.inl rfl) h
    · replace h := h.2 q
      refine R_iconst e_X0_hasKite_0.2.2.2.2.2.2.1 ?_
      refine R_goto 17 e_X0_hasKite_0.2.2.2.2.2.2.2.1 (by decide) ?_
      exact R_zreturn e_X0_hasKite_0.2.2.2.2.2.2.2.2.2 rfl (Or.inr rfl) h
/-! KiteLand$County.hasCrop(I)Z -/
theorem e_X0_hasCrop_0 : decode cX0_hasCrop 0 = .ok (.iload_n 1, 1) ∧ decode cX0_hasCrop 1 = .ok (.ifCond .lt 15, 3) ∧ decode cX0_hasCrop 4 = .ok (.iload_n 1, 1) ∧ decode cX0_hasCrop 5 = .ok (.aload_n 0, 1) ∧ decode cX0_hasCrop 6 = .ok (.getfield 30, 3) ∧ decode cX0_hasCrop 9 = .ok (.if_icmp .ge 7, 3) ∧ decode cX0_hasCrop 12 = .ok (.iconst 1, 1) ∧ decode cX0_hasCrop 13 = .ok (.goto 4, 3) ∧ decode cX0_hasCrop 16 = .ok (.iconst 0, 1) ∧ decode cX0_hasCrop 17 = .ok (.ireturn, 1) := by decide +kernel
theorem S_X0_hasCrop {G : Kg} {σ : Kmem} {Q : Int → Kmem → Prop} {c l1 : Int} (hc : isC c) (h : (rI l1) ∧ ((l1 < 0 → Q 0 σ) ∧ (0 ≤ l1 → (rI (σ c 6)) ∧ ((σ c 6 ≤ l1 → Q 0 σ) ∧ (l1 < σ c 6 → Q 1 σ))))) : Run G WX M_X0_hasCrop 0 0 0 [vA G c, vI l1] σ Q := by
  refine Run.of (by decide +kernel) (by show (2 : Nat) ≤ 2; decide) ?_
  show Ex G WX M_X0_hasCrop 0 0 0 0 [(0, vA G c), (1, vI l1)] [] σ Q
  refine R_iload_n e_X0_hasCrop_0.1 1 rfl ?_
  obtain ⟨q1, h⟩ := h
  refine R_if_lt 16 e_X0_hasCrop_0.2.1 (by decide) q1  (fun q => ?_) (fun q => ?_)
  · replace h := h.1 q
    refine R_iconst e_X0_hasCrop_0.2.2.2.2.2.2.2.2.1 ?_
    exact R_zreturn e_X0_hasCrop_0.2.2.2.2.2.2.2.2.2 rfl (Or.inl rfl) h
  · replace h := h.2 q
    refine R_iload_n e_X0_hasCrop_0.2.2.1 1 rfl ?_
    refine R_aload_n e_X0_hasCrop_0.2.2.2.1 0 rfl ?_
    refine R_getI 0 6 6 e_X0_hasCrop_0.2.2.2.2.1 f_X0_30 (kC_self hc) (fun _ _ => rfl) rfl ?_
    obtain ⟨q2, h⟩ := h
    refine R_icmp_ge 16 e_X0_hasCrop_0.2.2.2.2.2.1 (by decide) q1 q2 (fun q => ?_) (fun q => ?_)
    · replace h := h.1 q
      refine R_iconst e_X0_hasCrop_0.2.2.2.2.2.2.2.2.1 ?_
      exact R_zreturn e_X0_hasCrop_0.2.2.2.2.2.2.2.2.2 rfl (Or.inl rfl) h
    · replace h := h.2 q
      refine R_iconst e_X0_hasCrop_0.2.2.2.2.2.2.1 ?_
      refine R_goto 17 e_X0_hasCrop_0.2.2.2.2.2.2.2.1 (by decide) ?_
      exact R_zreturn e_X0_hasCrop_0.2.2.2.2.2.2.2.2.2 rfl (Or.inr rfl) h
/-! KiteLand$County.hasTenant(I)Z -/
theorem e_X0_hasTenant_0 : decode cX0_hasTenant 0 = .ok (.iload_n 1, 1) ∧ decode cX0_hasTenant 1 = .ok (.ifCond .lt 15, 3) ∧ decode cX0_hasTenant 4 = .ok (.iload_n 1, 1) ∧ decode cX0_hasTenant 5 = .ok (.aload_n 0, 1) ∧ decode cX0_hasTenant 6 = .ok (.getfield 33, 3) ∧ decode cX0_hasTenant 9 = .ok (.if_icmp .ge 7, 3) ∧ decode cX0_hasTenant 12 = .ok (.iconst 1, 1) ∧ decode cX0_hasTenant 13 = .ok (.goto 4, 3) ∧ decode cX0_hasTenant 16 = .ok (.iconst 0, 1) ∧ decode cX0_hasTenant 17 = .ok (.ireturn, 1) := by decide +kernel
theorem S_X0_hasTenant {G : Kg} {σ : Kmem} {Q : Int → Kmem → Prop} {c l1 : Int} (hc : isC c) (h : (rI l1) ∧ ((l1 < 0 → Q 0 σ) ∧ (0 ≤ l1 → (rI (σ c 7)) ∧ ((σ c 7 ≤ l1 → Q 0 σ) ∧ (l1 < σ c 7 → Q 1 σ))))) : Run G WX M_X0_hasTenant 0 0 0 [vA G c, vI l1] σ Q := by
  refine Run.of (by decide +kernel) (by show (2 : Nat) ≤ 2; decide) ?_
  show Ex G WX M_X0_hasTenant 0 0 0 0 [(0, vA G c), (1, vI l1)] [] σ Q
  refine R_iload_n e_X0_hasTenant_0.1 1 rfl ?_
  obtain ⟨q1, h⟩ := h
  refine R_if_lt 16 e_X0_hasTenant_0.2.1 (by decide) q1  (fun q => ?_) (fun q => ?_)
  · replace h := h.1 q
    refine R_iconst e_X0_hasTenant_0.2.2.2.2.2.2.2.2.1 ?_
    exact R_zreturn e_X0_hasTenant_0.2.2.2.2.2.2.2.2.2 rfl (Or.inl rfl) h
  · replace h := h.2 q
    refine R_iload_n e_X0_hasTenant_0.2.2.1 1 rfl ?_
    refine R_aload_n e_X0_hasTenant_0.2.2.2.1 0 rfl ?_
    refine R_getI 0 7 7 e_X0_hasTenant_0.2.2.2.2.1 f_X0_33 (kC_self hc) (fun _ _ => rfl) rfl ?_
    obtain ⟨q2, h⟩ := h
    refine R_icmp_ge 16 e_X0_hasTenant_0.2.2.2.2.2.1 (by decide) q1 q2 (fun q => ?_) (fun q => ?_)
    · replace h := h.1 q
      refine R_iconst e_X0_hasTenant_0.2.2.2.2.2.2.2.2.1 ?_
      exact R_zreturn e_X0_hasTenant_0.2.2.2.2.2.2.2.2.2 rfl (Or.inl rfl) h
    · replace h := h.2 q
      refine R_iconst e_X0_hasTenant_0.2.2.2.2.2.2.1 ?_
      refine R_goto 17 e_X0_hasTenant_0.2.2.2.2.2.2.2.1 (by decide) ?_
      exact R_zreturn e_X0_hasTenant_0.2.2.2.2.2.2.2.2.2 rfl (Or.inr rfl) h
/-! KiteLand$County.hasRow(I)Z -/
theorem e_X0_hasRow_0 : decode cX0_hasRow 0 = .ok (.iload_n 1, 1) ∧ decode cX0_hasRow 1 = .ok (.ifCond .lt 15, 3) ∧ decode cX0_hasRow 4 = .ok (.iload_n 1, 1) ∧ decode cX0_hasRow 5 = .ok (.aload_n 0, 1) ∧ decode cX0_hasRow 6 = .ok (.getfield 15, 3) ∧ decode cX0_hasRow 9 = .ok (.if_icmp .ge 7, 3) ∧ decode cX0_hasRow 12 = .ok (.iconst 1, 1) ∧ decode cX0_hasRow 13 = .ok (.goto 4, 3) ∧ decode cX0_hasRow 16 = .ok (.iconst 0, 1) ∧ decode cX0_hasRow 17 = .ok (.ireturn, 1) := by decide +kernel
theorem S_X0_hasRow {G : Kg} {σ : Kmem} {Q : Int → Kmem → Prop} {c l1 : Int} (hc : isC c) (h : (rI l1) ∧ ((l1 < 0 → Q 0 σ) ∧ (0 ≤ l1 → (rI (σ c 1)) ∧ ((σ c 1 ≤ l1 → Q 0 σ) ∧ (l1 < σ c 1 → Q 1 σ))))) : Run G WX M_X0_hasRow 0 0 0 [vA G c, vI l1] σ Q := by
  refine Run.of (by decide +kernel) (by show (2 : Nat) ≤ 2; decide) ?_
  show Ex G WX M_X0_hasRow 0 0 0 0 [(0, vA G c), (1, vI l1)] [] σ Q
  refine R_iload_n e_X0_hasRow_0.1 1 rfl ?_
  obtain ⟨q1, h⟩ := h
  refine R_if_lt 16 e_X0_hasRow_0.2.1 (by decide) q1  (fun q => ?_) (fun q => ?_)
  · replace h := h.1 q
    refine R_iconst e_X0_hasRow_0.2.2.2.2.2.2.2.2.1 ?_
    exact R_zreturn e_X0_hasRow_0.2.2.2.2.2.2.2.2.2 rfl (Or.inl rfl) h
  · replace h := h.2 q
    refine R_iload_n e_X0_hasRow_0.2.2.1 1 rfl ?_
    refine R_aload_n e_X0_hasRow_0.2.2.2.1 0 rfl ?_
    refine R_getI 0 1 1 e_X0_hasRow_0.2.2.2.2.1 f_X0_15 (kC_self hc) (fun _ _ => rfl) rfl ?_
    obtain ⟨q2, h⟩ := h
    refine R_icmp_ge 16 e_X0_hasRow_0.2.2.2.2.2.1 (by decide) q1 q2 (fun q => ?_) (fun q => ?_)
    · replace h := h.1 q
      refine R_iconst e_X0_hasRow_0.2.2.2.2.2.2.2.2.1 ?_
      exact R_zreturn e_X0_hasRow_0.2.2.2.2.2.2.2.2.2 rfl (Or.inl rfl) h
    · replace h := h.2 q
      refine R_iconst e_X0_hasRow_0.2.2.2.2.2.2.1 ?_
      refine R_goto 17 e_X0_hasRow_0.2.2.2.2.2.2.2.1 (by decide) ?_
      exact R_zreturn e_X0_hasRow_0.2.2.2.2.2.2.2.2.2 rfl (Or.inr rfl) h
/-! KiteLand$County.hasField(II)Z -/
theorem e_X0_hasField_0 : decode cX0_hasField 0 = .ok (.iload_n 1, 1) ∧ decode cX0_hasField 1 = .ok (.ifCond .lt 23, 3) ∧ decode cX0_hasField 4 = .ok (.iload_n 1, 1) ∧ decode cX0_hasField 5 = .ok (.aload_n 0, 1) ∧ decode cX0_hasField 6 = .ok (.getfield 9, 3) ∧ decode cX0_hasField 9 = .ok (.if_icmp .ge 15, 3) ∧ decode cX0_hasField 12 = .ok (.aload_n 0, 1) ∧ decode cX0_hasField 13 = .ok (.iload_n 2, 1) ∧ decode cX0_hasField 14 = .ok (.invokevirtual 83, 3) ∧ decode cX0_hasField 17 = .ok (.ifCond .eq 7, 3) := by decide +kernel
theorem e_X0_hasField_1 : decode cX0_hasField 20 = .ok (.iconst 1, 1) ∧ decode cX0_hasField 21 = .ok (.goto 4, 3) ∧ decode cX0_hasField 24 = .ok (.iconst 0, 1) ∧ decode cX0_hasField 25 = .ok (.ireturn, 1) := by decide +kernel
theorem S_X0_hasField {G : Kg} {σ : Kmem} {Q : Int → Kmem → Prop} {c l1 l2 : Int} (hc : isC c) (h : (rI l1) ∧ ((l1 < 0 → Q 0 σ) ∧ (0 ≤ l1 → (rI (σ c 0)) ∧ ((σ c 0 ≤ l1 → Q 0 σ) ∧ (l1 < σ c 0 → Run G WX M_X0_hasRow 0 0 0 [vA G c, vI l2] σ (fun r3 s4 => (rI r3) ∧ ((r3 = 0 → Q 0 s4) ∧ (r3 ≠ 0 → Q 1 s4)))))))) : Run G WX M_X0_hasField 1 0 0 [vA G c, vI l1, vI l2] σ Q := by
  refine Run.of (by decide +kernel) (by show (3 : Nat) ≤ 3; decide) ?_
  show Ex G WX M_X0_hasField 1 0 0 0 [(0, vA G c), (1, vI l1), (2, vI l2)] [] σ Q
  refine R_iload_n e_X0_hasField_0.1 1 rfl ?_
  obtain ⟨q1, h⟩ := h
  refine R_if_lt 24 e_X0_hasField_0.2.1 (by decide) q1  (fun q => ?_) (fun q => ?_)
  · replace h := h.1 q
    refine R_iconst e_X0_hasField_1.2.2.1 ?_
    exact R_zreturn e_X0_hasField_1.2.2.2 rfl (Or.inl rfl) h
  · replace h := h.2 q
    refine R_iload_n e_X0_hasField_0.2.2.1 1 rfl ?_
    refine R_aload_n e_X0_hasField_0.2.2.2.1 0 rfl ?_
    refine R_getI 0 0 0 e_X0_hasField_0.2.2.2.2.1 f_X0_9 (kC_self hc) (fun _ _ => rfl) rfl ?_
    obtain ⟨q2, h⟩ := h
    refine R_icmp_ge 24 e_X0_hasField_0.2.2.2.2.2.1 (by decide) q1 q2 (fun q => ?_) (fun q => ?_)
    · replace h := h.1 q
      refine R_iconst e_X0_hasField_1.2.2.1 ?_
      exact R_zreturn e_X0_hasField_1.2.2.2 rfl (Or.inl rfl) h
    · replace h := h.2 q
      refine R_aload_n e_X0_hasField_0.2.2.2.2.2.2.1 0 rfl ?_
      refine R_iload_n e_X0_hasField_0.2.2.2.2.2.2.2.1 2 rfl ?_
      refine R_callV (mc := 0) (ms := 0) (mc' := 0) (ms' := 0) (M' := M_X0_hasRow) (d' := 0) (as := [vI l2]) (st := []) 0 1 e_X0_hasField_0.2.2.2.2.2.2.2.2.1 (kCVof m_X0_hasRow l_X0_83) rfl (by decide) (kC_self hc) (by decide) (by decide) rfl rfl (by show (0 : Nat) ≤ 8; decide) ?_
      refine Run.mono h (fun r3 s4 h => ?_)
      refine R_eqs (st2 := [vI r3]) rfl rfl ?_
      obtain ⟨q5, h⟩ := h
      refine R_if_eq 24 e_X0_hasField_0.2.2.2.2.2.2.2.2.2 (by decide) q5  (fun q => ?_) (fun q => ?_)
      · replace h := h.1 q
        refine R_iconst e_X0_hasField_1.2.2.1 ?_
        exact R_zreturn e_X0_hasField_1.2.2.2 rfl (Or.inl rfl) h
      · replace h := h.2 q
        refine R_iconst e_X0_hasField_1.1 ?_
        refine R_goto 25 e_X0_hasField_1.2.1 (by decide) ?_
        exact R_zreturn e_X0_hasField_1.2.2.2 rfl (Or.inr rfl) h
/-! KiteLand$County.hasFieldNumber(J)Z -/
theorem e_X0_hasFieldNumber_0 : decode cX0_hasFieldNumber 0 = .ok (.lload_n 1, 1) ∧ decode cX0_hasFieldNumber 1 = .ok (.lconst 0, 1) ∧ decode cX0_hasFieldNumber 2 = .ok (.lcmp, 1) ∧ decode cX0_hasFieldNumber 3 = .ok (.ifCond .lt 32, 3) ∧ decode cX0_hasFieldNumber 6 = .ok (.lload_n 1, 1) ∧ decode cX0_hasFieldNumber 7 = .ok (.ldc2_w 87, 3) ∧ decode cX0_hasFieldNumber 10 = .ok (.lcmp, 1) ∧ decode cX0_hasFieldNumber 11 = .ok (.ifCond .ge 24, 3) ∧ decode cX0_hasFieldNumber 14 = .ok (.aload_n 0, 1) ∧ decode cX0_hasFieldNumber 15 = .ok (.lload_n 1, 1) := by decide +kernel
theorem e_X0_hasFieldNumber_1 : decode cX0_hasFieldNumber 16 = .ok (.l2i, 1) ∧ decode cX0_hasFieldNumber 17 = .ok (.bipush 10, 2) ∧ decode cX0_hasFieldNumber 19 = .ok (.irem, 1) ∧ decode cX0_hasFieldNumber 20 = .ok (.lload_n 1, 1) ∧ decode cX0_hasFieldNumber 21 = .ok (.l2i, 1) ∧ decode cX0_hasFieldNumber 22 = .ok (.bipush 10, 2) ∧ decode cX0_hasFieldNumber 24 = .ok (.idiv, 1) ∧ decode cX0_hasFieldNumber 25 = .ok (.invokevirtual 89, 3) ∧ decode cX0_hasFieldNumber 28 = .ok (.ifCond .eq 7, 3) ∧ decode cX0_hasFieldNumber 31 = .ok (.iconst 1, 1) := by decide +kernel
theorem e_X0_hasFieldNumber_2 : decode cX0_hasFieldNumber 32 = .ok (.goto 4, 3) ∧ decode cX0_hasFieldNumber 35 = .ok (.iconst 0, 1) ∧ decode cX0_hasFieldNumber 36 = .ok (.ireturn, 1) := by decide +kernel
theorem S_X0_hasFieldNumber {G : Kg} {σ : Kmem} {Q : Int → Kmem → Prop} {c l1 : Int} (hc : isC c) (h : (rL l1) ∧ ((l1 < 0 → Q 0 σ) ∧ (0 ≤ l1 → ((70 ≤ l1 → Q 0 σ) ∧ (l1 < 70 → (0 ≤ l1 ∧ l1 ≤ 2147483647) ∧ (0 ≤ l1 ∧ l1 ≤ 2147483647) ∧ Run G WX M_X0_hasField 1 0 0 [vA G c, vI (l1 % 10), vI (l1 / 10)] σ (fun r4 s5 => (rI r4) ∧ ((r4 = 0 → Q 0 s5) ∧ (r4 ≠ 0 → Q 1 s5)))))))) : Run G WX M_X0_hasFieldNumber 2 0 0 [vA G c, vL l1] σ Q := by
  refine Run.of (by decide +kernel) (by show (3 : Nat) ≤ 3; decide) ?_
  show Ex G WX M_X0_hasFieldNumber 2 0 0 0 [(0, vA G c), (1, vL l1)] [] σ Q
  refine R_lload_n e_X0_hasFieldNumber_0.1 1 rfl ?_
  refine R_lconst 0 e_X0_hasFieldNumber_0.2.1 (by decide) ?_
  obtain ⟨q1, h⟩ := h
  refine R_lcmp e_X0_hasFieldNumber_0.2.2.1 q1 (by decide) ?_
  refine R_if_lt 35 e_X0_hasFieldNumber_0.2.2.2.1 (by decide) (kcmp_r _ _) (fun q => ?_) (fun q => ?_)
  · replace h := h.1 (kcmp_lt_t.mp q)
    refine R_iconst e_X0_hasFieldNumber_2.2.1 ?_
    exact R_zreturn e_X0_hasFieldNumber_2.2.2 rfl (Or.inl rfl) h
  · replace h := h.2 (kcmp_lt_f.mp q)
    refine R_lload_n e_X0_hasFieldNumber_0.2.2.2.2.1 1 rfl ?_
    refine R_ldc2 (70) k_X0_87 e_X0_hasFieldNumber_0.2.2.2.2.2.1 ?_
    refine R_lcmp e_X0_hasFieldNumber_0.2.2.2.2.2.2.1 q1 (by decide) ?_
    refine R_if_ge 35 e_X0_hasFieldNumber_0.2.2.2.2.2.2.2.1 (by decide) (kcmp_r _ _) (fun q => ?_) (fun q => ?_)
    · replace h := h.1 (kcmp_ge_t.mp q)
      refine R_iconst e_X0_hasFieldNumber_2.2.1 ?_
      exact R_zreturn e_X0_hasFieldNumber_2.2.2 rfl (Or.inl rfl) h
    · replace h := h.2 (kcmp_ge_f.mp q)
      refine R_aload_n e_X0_hasFieldNumber_0.2.2.2.2.2.2.2.2.1 0 rfl ?_
      refine R_lload_n e_X0_hasFieldNumber_0.2.2.2.2.2.2.2.2.2 1 rfl ?_
      refine R_l2i e_X0_hasFieldNumber_1.1 ?_
      refine R_bipush e_X0_hasFieldNumber_1.2.1 (by decide) ?_
      obtain ⟨q2, h⟩ := h
      refine R_irem e_X0_hasFieldNumber_1.2.2.1 q2 (by decide) ?_
      refine R_lload_n e_X0_hasFieldNumber_1.2.2.2.1 1 rfl ?_
      refine R_l2i e_X0_hasFieldNumber_1.2.2.2.2.1 ?_
      refine R_bipush e_X0_hasFieldNumber_1.2.2.2.2.2.1 (by decide) ?_
      obtain ⟨q3, h⟩ := h
      refine R_idiv e_X0_hasFieldNumber_1.2.2.2.2.2.2.1 q3 (by decide) ?_
      refine R_callV (mc := 0) (ms := 0) (mc' := 0) (ms' := 0) (M' := M_X0_hasField) (d' := 1) (as := [vI (l1 % 10), vI (l1 / 10)]) (st := []) 0 2 e_X0_hasFieldNumber_1.2.2.2.2.2.2.2.1 (kCVof m_X0_hasField l_X0_89) rfl (by decide) (kC_self hc) (by decide) (by decide) rfl rfl (by show (0 : Nat) ≤ 8; decide) ?_
      refine Run.mono h (fun r4 s5 h => ?_)
      refine R_eqs (st2 := [vI r4]) rfl rfl ?_
      obtain ⟨q6, h⟩ := h
      refine R_if_eq 35 e_X0_hasFieldNumber_1.2.2.2.2.2.2.2.2.1 (by decide) q6  (fun q => ?_) (fun q => ?_)
      · replace h := h.1 q
        refine R_iconst e_X0_hasFieldNumber_2.2.1 ?_
        exact R_zreturn e_X0_hasFieldNumber_2.2.2 rfl (Or.inl rfl) h
      · replace h := h.2 q
        refine R_iconst e_X0_hasFieldNumber_1.2.2.2.2.2.2.2.2.2 ?_
        refine R_goto 36 e_X0_hasFieldNumber_2.1 (by decide) ?_
        exact R_zreturn e_X0_hasFieldNumber_2.2.2 rfl (Or.inr rfl) h
/-! KiteLand$County.hasName(J)Z -/
theorem e_X0_hasName_0 : decode cX0_hasName 0 = .ok (.iconst 0, 1) ∧ decode cX0_hasName 1 = .ok (.istore_n 3, 1) ∧ decode cX0_hasName 2 = .ok (.iload_n 3, 1) ∧ decode cX0_hasName 3 = .ok (.aload_n 0, 1) ∧ decode cX0_hasName 4 = .ok (.getfield 33, 3) ∧ decode cX0_hasName 7 = .ok (.if_icmp .ge 25, 3) ∧ decode cX0_hasName 10 = .ok (.aload_n 0, 1) ∧ decode cX0_hasName 11 = .ok (.getfield 57, 3) ∧ decode cX0_hasName 14 = .ok (.iload_n 3, 1) ∧ decode cX0_hasName 15 = .ok (.aaload, 1) := by decide +kernel
theorem e_X0_hasName_1 : decode cX0_hasName 16 = .ok (.getfield 93, 3) ∧ decode cX0_hasName 19 = .ok (.lload_n 1, 1) ∧ decode cX0_hasName 20 = .ok (.lcmp, 1) ∧ decode cX0_hasName 21 = .ok (.ifCond .ne 5, 3) ∧ decode cX0_hasName 24 = .ok (.iconst 1, 1) ∧ decode cX0_hasName 25 = .ok (.ireturn, 1) ∧ decode cX0_hasName 26 = .ok (.iinc 3 1, 3) ∧ decode cX0_hasName 29 = .ok (.goto (-27), 3) ∧ decode cX0_hasName 32 = .ok (.aload_n 0, 1) ∧ decode cX0_hasName 33 = .ok (.lload_n 1, 1) := by decide +kernel
theorem e_X0_hasName_2 : decode cX0_hasName 34 = .ok (.invokevirtual 97, 3) ∧ decode cX0_hasName 37 = .ok (.iconst (-1), 1) ∧ decode cX0_hasName 38 = .ok (.if_icmp .ne 12, 3) ∧ decode cX0_hasName 41 = .ok (.aload_n 0, 1) ∧ decode cX0_hasName 42 = .ok (.lload_n 1, 1) ∧ decode cX0_hasName 43 = .ok (.invokevirtual 101, 3) ∧ decode cX0_hasName 46 = .ok (.iconst (-1), 1) ∧ decode cX0_hasName 47 = .ok (.if_icmp .eq 7, 3) ∧ decode cX0_hasName 50 = .ok (.iconst 1, 1) ∧ decode cX0_hasName 51 = .ok (.goto 4, 3) := by decide +kernel
theorem e_X0_hasName_3 : decode cX0_hasName 54 = .ok (.iconst 0, 1) ∧ decode cX0_hasName 55 = .ok (.ireturn, 1) := by decide +kernel
abbrev E_X0_hasName_2 (G : Kg) (c l1 l3 : Int) (σ : Kmem) (Q : Int → Kmem → Prop) : Prop := Ex G WX M_X0_hasName 1 0 0 2 [(0, vA G c), (1, vL l1), (3, vI l3)] [] σ Q
theorem S_X0_hasName {G : Kg} {σ : Kmem} {Q : Int → Kmem → Prop} {c l1 : Int} (hc : isC c) (h : E_X0_hasName_2 G c l1 0 σ Q) : Run G WX M_X0_hasName 1 0 0 [vA G c, vL l1] σ Q := by
  refine Run.of (by decide +kernel) (by show (3 : Nat) ≤ 4; decide) ?_
  show Ex G WX M_X0_hasName 1 0 0 0 [(0, vA G c), (1, vL l1)] [] σ Q
  refine R_iconst e_X0_hasName_0.1 ?_
  refine R_istore_n (ls2 := [(3, vI 0), (0, vA G c), (1, vL l1)]) e_X0_hasName_0.2.1 (by decide) rfl ?_
  refine R_ls (ls2 := [(0, vA G c), (1, vL l1), (3, vI 0)]) [1, 2, 0] rfl ?_
  exact h
theorem S_X0_hasName_2 {G : Kg} {σ : Kmem} {Q : Int → Kmem → Prop} {c l1 l3 : Int} (hc : isC c) (h : (rI l3) ∧ (rI (σ c 7)) ∧ ((σ c 7 ≤ l3 → Run G WX M_X0_kiteNamed 0 0 0 [vA G c, vL l1] σ (fun r3 s4 => (rI r3) ∧ ((r3 ≠ -1 → Q 1 s4) ∧ (r3 = -1 → Run G WX M_X0_cropNamed 0 0 0 [vA G c, vL l1] s4 (fun r6 s7 => (rI r6) ∧ ((r6 = -1 → Q 0 s7) ∧ (r6 ≠ -1 → Q 1 s7))))))) ∧ (l3 < σ c 7 → (0 ≤ l3 ∧ l3 < 6) ∧ (rL (σ (c + 20 + l3) 0)) ∧ (rL l1) ∧ ((σ (c + 20 + l3) 0 ≠ l1 → E_X0_hasName_2 G c l1 (l3 + 1) σ Q) ∧ (σ (c + 20 + l3) 0 = l1 → Q 1 σ))))) : E_X0_hasName_2 G c l1 l3 σ Q := by
  refine R_iload_n e_X0_hasName_0.2.2.1 2 rfl ?_
  refine R_aload_n e_X0_hasName_0.2.2.2.1 0 rfl ?_
  refine R_getI 0 7 7 e_X0_hasName_0.2.2.2.2.1 f_X0_33 (kC_self hc) (fun _ _ => rfl) rfl ?_
  obtain ⟨q1, h⟩ := h
  obtain ⟨q2, h⟩ := h
  refine R_icmp_ge 32 e_X0_hasName_0.2.2.2.2.2.1 (by decide) q1 q2 (fun q => ?_) (fun q => ?_)
  · replace h := h.1 q
    refine R_aload_n e_X0_hasName_1.2.2.2.2.2.2.2.2.1 0 rfl ?_
    refine R_lload_n e_X0_hasName_1.2.2.2.2.2.2.2.2.2 1 rfl ?_
    refine R_callV (mc := 0) (ms := 0) (mc' := 0) (ms' := 0) (M' := M_X0_kiteNamed) (d' := 0) (as := [vL l1]) (st := []) 0 1 e_X0_hasName_2.1 (kCVof m_X0_kiteNamed l_X0_97) rfl (by decide) (kC_self hc) (by decide) (by decide) rfl rfl (by show (0 : Nat) ≤ 8; decide) ?_
    refine Run.mono h (fun r3 s4 h => ?_)
    refine R_eqs (st2 := [vI r3]) rfl rfl ?_
    refine R_iconst e_X0_hasName_2.2.1 ?_
    obtain ⟨q5, h⟩ := h
    refine R_icmp_ne 50 e_X0_hasName_2.2.2.1 (by decide) q5 (by decide) (fun q => ?_) (fun q => ?_)
    · replace h := h.1 q
      refine R_iconst e_X0_hasName_2.2.2.2.2.2.2.2.2.1 ?_
      refine R_goto 55 e_X0_hasName_2.2.2.2.2.2.2.2.2.2 (by decide) ?_
      exact R_zreturn e_X0_hasName_3.2 rfl (Or.inr rfl) h
    · replace h := h.2 q
      refine R_aload_n e_X0_hasName_2.2.2.2.1 0 rfl ?_
      refine R_lload_n e_X0_hasName_2.2.2.2.2.1 1 rfl ?_
      refine R_callV (mc := 0) (ms := 0) (mc' := 0) (ms' := 0) (M' := M_X0_cropNamed) (d' := 0) (as := [vL l1]) (st := []) 0 1 e_X0_hasName_2.2.2.2.2.2.1 (kCVof m_X0_cropNamed l_X0_101) rfl (by decide) (kC_self hc) (by decide) (by decide) rfl rfl (by show (0 : Nat) ≤ 8; decide) ?_
      refine Run.mono h (fun r6 s7 h => ?_)
      refine R_eqs (st2 := [vI r6]) rfl rfl ?_
      refine R_iconst e_X0_hasName_2.2.2.2.2.2.2.1 ?_
      obtain ⟨q8, h⟩ := h
      refine R_icmp_eq 54 e_X0_hasName_2.2.2.2.2.2.2.2.1 (by decide) q8 (by decide) (fun q => ?_) (fun q => ?_)
      · replace h := h.1 q
        refine R_iconst e_X0_hasName_3.1 ?_
        exact R_zreturn e_X0_hasName_3.2 rfl (Or.inl rfl) h
      · replace h := h.2 q
        refine R_iconst e_X0_hasName_2.2.2.2.2.2.2.2.2.1 ?_
        refine R_goto 55 e_X0_hasName_2.2.2.2.2.2.2.2.2.2 (by decide) ?_
        exact R_zreturn e_X0_hasName_3.2 rfl (Or.inr rfl) h
  · replace h := h.2 q
    refine R_aload_n e_X0_hasName_0.2.2.2.2.2.2.1 0 rfl ?_
    refine R_getA 0 12 (c + 5) e_X0_hasName_0.2.2.2.2.2.2.2.1 f_X0_57 (kC_self hc) (fun _ _ => rfl) (kC_r12 hc) (kC_n5 hc) ?_
    refine R_iload_n e_X0_hasName_0.2.2.2.2.2.2.2.2.1 2 rfl ?_
    obtain ⟨q9, h⟩ := h
    refine R_aald 29 6 (c + 20 + l3) e_X0_hasName_0.2.2.2.2.2.2.2.2.2 (by decide) (kC_tens hc) q9 (kC_tenAt hc q9) (kC_tenN hc q9) ?_
    refine R_getL 9 0 0 e_X0_hasName_1.1 f_X0_93 (kC_ten hc q9) (fun _ _ => rfl) rfl ?_
    refine R_lload_n e_X0_hasName_1.2.1 1 rfl ?_
    obtain ⟨q10, h⟩ := h
    obtain ⟨q11, h⟩ := h
    refine R_lcmp e_X0_hasName_1.2.2.1 q10 q11 ?_
    refine R_if_ne 26 e_X0_hasName_1.2.2.2.1 (by decide) (kcmp_r _ _) (fun q => ?_) (fun q => ?_)
    · replace h := h.1 (kcmp_ne_t.mp q)
      refine R_iinc (ls2 := [(3, vI (l3 + 1)), (0, vA G c), (1, vL l1)]) e_X0_hasName_1.2.2.2.2.2.2.1 2 rfl (by decide) rfl ?_
      refine R_goto 2 e_X0_hasName_1.2.2.2.2.2.2.2.1 (by decide) ?_
      refine R_ls (ls2 := [(0, vA G c), (1, vL l1), (3, vI (l3 + 1))]) [1, 2, 0] rfl ?_
      exact h
    · replace h := h.2 (kcmp_ne_f.mp q)
      refine R_iconst e_X0_hasName_1.2.2.2.2.1 ?_
      exact R_zreturn e_X0_hasName_1.2.2.2.2.2.1 rfl (Or.inr rfl) h
/-! KiteLand$County.kiteNamed(J)I -/
theorem e_X0_kiteNamed_0 : decode cX0_kiteNamed 0 = .ok (.iconst 0, 1) ∧ decode cX0_kiteNamed 1 = .ok (.istore_n 3, 1) ∧ decode cX0_kiteNamed 2 = .ok (.iload_n 3, 1) ∧ decode cX0_kiteNamed 3 = .ok (.aload_n 0, 1) ∧ decode cX0_kiteNamed 4 = .ok (.getfield 27, 3) ∧ decode cX0_kiteNamed 7 = .ok (.if_icmp .ge 25, 3) ∧ decode cX0_kiteNamed 10 = .ok (.aload_n 0, 1) ∧ decode cX0_kiteNamed 11 = .ok (.getfield 45, 3) ∧ decode cX0_kiteNamed 14 = .ok (.iload_n 3, 1) ∧ decode cX0_kiteNamed 15 = .ok (.aaload, 1) := by decide +kernel
theorem e_X0_kiteNamed_1 : decode cX0_kiteNamed 16 = .ok (.getfield 104, 3) ∧ decode cX0_kiteNamed 19 = .ok (.lload_n 1, 1) ∧ decode cX0_kiteNamed 20 = .ok (.lcmp, 1) ∧ decode cX0_kiteNamed 21 = .ok (.ifCond .ne 5, 3) ∧ decode cX0_kiteNamed 24 = .ok (.iload_n 3, 1) ∧ decode cX0_kiteNamed 25 = .ok (.ireturn, 1) ∧ decode cX0_kiteNamed 26 = .ok (.iinc 3 1, 3) ∧ decode cX0_kiteNamed 29 = .ok (.goto (-27), 3) ∧ decode cX0_kiteNamed 32 = .ok (.iconst (-1), 1) ∧ decode cX0_kiteNamed 33 = .ok (.ireturn, 1) := by decide +kernel
abbrev E_X0_kiteNamed_2 (G : Kg) (c l1 l3 : Int) (σ : Kmem) (Q : Int → Kmem → Prop) : Prop := Ex G WX M_X0_kiteNamed 0 0 0 2 [(0, vA G c), (1, vL l1), (3, vI l3)] [] σ Q
theorem S_X0_kiteNamed {G : Kg} {σ : Kmem} {Q : Int → Kmem → Prop} {c l1 : Int} (hc : isC c) (h : E_X0_kiteNamed_2 G c l1 0 σ Q) : Run G WX M_X0_kiteNamed 0 0 0 [vA G c, vL l1] σ Q := by
  refine Run.of (by decide +kernel) (by show (3 : Nat) ≤ 4; decide) ?_
  show Ex G WX M_X0_kiteNamed 0 0 0 0 [(0, vA G c), (1, vL l1)] [] σ Q
  refine R_iconst e_X0_kiteNamed_0.1 ?_
  refine R_istore_n (ls2 := [(3, vI 0), (0, vA G c), (1, vL l1)]) e_X0_kiteNamed_0.2.1 (by decide) rfl ?_
  refine R_ls (ls2 := [(0, vA G c), (1, vL l1), (3, vI 0)]) [1, 2, 0] rfl ?_
  exact h
theorem S_X0_kiteNamed_2 {G : Kg} {σ : Kmem} {Q : Int → Kmem → Prop} {c l1 l3 : Int} (hc : isC c) (h : (rI l3) ∧ (rI (σ c 5)) ∧ ((σ c 5 ≤ l3 → Q (-1) σ) ∧ (l3 < σ c 5 → (0 ≤ l3 ∧ l3 < 6) ∧ (rL (σ (c + 6 + l3) 0)) ∧ (rL l1) ∧ ((σ (c + 6 + l3) 0 ≠ l1 → E_X0_kiteNamed_2 G c l1 (l3 + 1) σ Q) ∧ (σ (c + 6 + l3) 0 = l1 → Q l3 σ))))) : E_X0_kiteNamed_2 G c l1 l3 σ Q := by
  refine R_iload_n e_X0_kiteNamed_0.2.2.1 2 rfl ?_
  refine R_aload_n e_X0_kiteNamed_0.2.2.2.1 0 rfl ?_
  refine R_getI 0 5 5 e_X0_kiteNamed_0.2.2.2.2.1 f_X0_27 (kC_self hc) (fun _ _ => rfl) rfl ?_
  obtain ⟨q1, h⟩ := h
  obtain ⟨q2, h⟩ := h
  refine R_icmp_ge 32 e_X0_kiteNamed_0.2.2.2.2.2.1 (by decide) q1 q2 (fun q => ?_) (fun q => ?_)
  · replace h := h.1 q
    refine R_iconst e_X0_kiteNamed_1.2.2.2.2.2.2.2.2.1 ?_
    exact R_ireturn e_X0_kiteNamed_1.2.2.2.2.2.2.2.2.2 rfl h
  · replace h := h.2 q
    refine R_aload_n e_X0_kiteNamed_0.2.2.2.2.2.2.1 0 rfl ?_
    refine R_getA 0 10 (c + 3) e_X0_kiteNamed_0.2.2.2.2.2.2.2.1 f_X0_45 (kC_self hc) (fun _ _ => rfl) (kC_r10 hc) (kC_n3 hc) ?_
    refine R_iload_n e_X0_kiteNamed_0.2.2.2.2.2.2.2.2.1 2 rfl ?_
    obtain ⟨q3, h⟩ := h
    refine R_aald 27 6 (c + 6 + l3) e_X0_kiteNamed_0.2.2.2.2.2.2.2.2.2 (by decide) (kC_kites hc) q3 (kC_kiteAt hc q3) (kC_kiteN hc q3) ?_
    refine R_getL 3 0 0 e_X0_kiteNamed_1.1 f_X0_104 (kC_kite hc q3) (fun _ _ => rfl) rfl ?_
    refine R_lload_n e_X0_kiteNamed_1.2.1 1 rfl ?_
    obtain ⟨q4, h⟩ := h
    obtain ⟨q5, h⟩ := h
    refine R_lcmp e_X0_kiteNamed_1.2.2.1 q4 q5 ?_
    refine R_if_ne 26 e_X0_kiteNamed_1.2.2.2.1 (by decide) (kcmp_r _ _) (fun q => ?_) (fun q => ?_)
    · replace h := h.1 (kcmp_ne_t.mp q)
      refine R_iinc (ls2 := [(3, vI (l3 + 1)), (0, vA G c), (1, vL l1)]) e_X0_kiteNamed_1.2.2.2.2.2.2.1 2 rfl (by decide) rfl ?_
      refine R_goto 2 e_X0_kiteNamed_1.2.2.2.2.2.2.2.1 (by decide) ?_
      refine R_ls (ls2 := [(0, vA G c), (1, vL l1), (3, vI (l3 + 1))]) [1, 2, 0] rfl ?_
      exact h
    · replace h := h.2 (kcmp_ne_f.mp q)
      refine R_iload_n e_X0_kiteNamed_1.2.2.2.2.1 2 rfl ?_
      exact R_ireturn e_X0_kiteNamed_1.2.2.2.2.2.1 rfl h
/-! KiteLand$County.cropNamed(J)I -/
theorem e_X0_cropNamed_0 : decode cX0_cropNamed 0 = .ok (.iconst 0, 1) ∧ decode cX0_cropNamed 1 = .ok (.istore_n 3, 1) ∧ decode cX0_cropNamed 2 = .ok (.iload_n 3, 1) ∧ decode cX0_cropNamed 3 = .ok (.aload_n 0, 1) ∧ decode cX0_cropNamed 4 = .ok (.getfield 30, 3) ∧ decode cX0_cropNamed 7 = .ok (.if_icmp .ge 25, 3) ∧ decode cX0_cropNamed 10 = .ok (.aload_n 0, 1) ∧ decode cX0_cropNamed 11 = .ok (.getfield 51, 3) ∧ decode cX0_cropNamed 14 = .ok (.iload_n 3, 1) ∧ decode cX0_cropNamed 15 = .ok (.aaload, 1) := by decide +kernel
theorem e_X0_cropNamed_1 : decode cX0_cropNamed 16 = .ok (.getfield 105, 3) ∧ decode cX0_cropNamed 19 = .ok (.lload_n 1, 1) ∧ decode cX0_cropNamed 20 = .ok (.lcmp, 1) ∧ decode cX0_cropNamed 21 = .ok (.ifCond .ne 5, 3) ∧ decode cX0_cropNamed 24 = .ok (.iload_n 3, 1) ∧ decode cX0_cropNamed 25 = .ok (.ireturn, 1) ∧ decode cX0_cropNamed 26 = .ok (.iinc 3 1, 3) ∧ decode cX0_cropNamed 29 = .ok (.goto (-27), 3) ∧ decode cX0_cropNamed 32 = .ok (.iconst (-1), 1) ∧ decode cX0_cropNamed 33 = .ok (.ireturn, 1) := by decide +kernel
abbrev E_X0_cropNamed_2 (G : Kg) (c l1 l3 : Int) (σ : Kmem) (Q : Int → Kmem → Prop) : Prop := Ex G WX M_X0_cropNamed 0 0 0 2 [(0, vA G c), (1, vL l1), (3, vI l3)] [] σ Q
theorem S_X0_cropNamed {G : Kg} {σ : Kmem} {Q : Int → Kmem → Prop} {c l1 : Int} (hc : isC c) (h : E_X0_cropNamed_2 G c l1 0 σ Q) : Run G WX M_X0_cropNamed 0 0 0 [vA G c, vL l1] σ Q := by
  refine Run.of (by decide +kernel) (by show (3 : Nat) ≤ 4; decide) ?_
  show Ex G WX M_X0_cropNamed 0 0 0 0 [(0, vA G c), (1, vL l1)] [] σ Q
  refine R_iconst e_X0_cropNamed_0.1 ?_
  refine R_istore_n (ls2 := [(3, vI 0), (0, vA G c), (1, vL l1)]) e_X0_cropNamed_0.2.1 (by decide) rfl ?_
  refine R_ls (ls2 := [(0, vA G c), (1, vL l1), (3, vI 0)]) [1, 2, 0] rfl ?_
  exact h
theorem S_X0_cropNamed_2 {G : Kg} {σ : Kmem} {Q : Int → Kmem → Prop} {c l1 l3 : Int} (hc : isC c) (h : (rI l3) ∧ (rI (σ c 6)) ∧ ((σ c 6 ≤ l3 → Q (-1) σ) ∧ (l3 < σ c 6 → (0 ≤ l3 ∧ l3 < 8) ∧ (rL (σ (c + 12 + l3) 0)) ∧ (rL l1) ∧ ((σ (c + 12 + l3) 0 ≠ l1 → E_X0_cropNamed_2 G c l1 (l3 + 1) σ Q) ∧ (σ (c + 12 + l3) 0 = l1 → Q l3 σ))))) : E_X0_cropNamed_2 G c l1 l3 σ Q := by
  refine R_iload_n e_X0_cropNamed_0.2.2.1 2 rfl ?_
  refine R_aload_n e_X0_cropNamed_0.2.2.2.1 0 rfl ?_
  refine R_getI 0 6 6 e_X0_cropNamed_0.2.2.2.2.1 f_X0_30 (kC_self hc) (fun _ _ => rfl) rfl ?_
  obtain ⟨q1, h⟩ := h
  obtain ⟨q2, h⟩ := h
  refine R_icmp_ge 32 e_X0_cropNamed_0.2.2.2.2.2.1 (by decide) q1 q2 (fun q => ?_) (fun q => ?_)
  · replace h := h.1 q
    refine R_iconst e_X0_cropNamed_1.2.2.2.2.2.2.2.2.1 ?_
    exact R_ireturn e_X0_cropNamed_1.2.2.2.2.2.2.2.2.2 rfl h
  · replace h := h.2 q
    refine R_aload_n e_X0_cropNamed_0.2.2.2.2.2.2.1 0 rfl ?_
    refine R_getA 0 11 (c + 4) e_X0_cropNamed_0.2.2.2.2.2.2.2.1 f_X0_51 (kC_self hc) (fun _ _ => rfl) (kC_r11 hc) (kC_n4 hc) ?_
    refine R_iload_n e_X0_cropNamed_0.2.2.2.2.2.2.2.2.1 2 rfl ?_
    obtain ⟨q3, h⟩ := h
    refine R_aald 28 8 (c + 12 + l3) e_X0_cropNamed_0.2.2.2.2.2.2.2.2.2 (by decide) (kC_crops hc) q3 (kC_cropAt hc q3) (kC_cropN hc q3) ?_
    refine R_getL 2 0 0 e_X0_cropNamed_1.1 f_X0_105 (kC_crop hc q3) (fun _ _ => rfl) rfl ?_
    refine R_lload_n e_X0_cropNamed_1.2.1 1 rfl ?_
    obtain ⟨q4, h⟩ := h
    obtain ⟨q5, h⟩ := h
    refine R_lcmp e_X0_cropNamed_1.2.2.1 q4 q5 ?_
    refine R_if_ne 26 e_X0_cropNamed_1.2.2.2.1 (by decide) (kcmp_r _ _) (fun q => ?_) (fun q => ?_)
    · replace h := h.1 (kcmp_ne_t.mp q)
      refine R_iinc (ls2 := [(3, vI (l3 + 1)), (0, vA G c), (1, vL l1)]) e_X0_cropNamed_1.2.2.2.2.2.2.1 2 rfl (by decide) rfl ?_
      refine R_goto 2 e_X0_cropNamed_1.2.2.2.2.2.2.2.1 (by decide) ?_
      refine R_ls (ls2 := [(0, vA G c), (1, vL l1), (3, vI (l3 + 1))]) [1, 2, 0] rfl ?_
      exact h
    · replace h := h.2 (kcmp_ne_f.mp q)
      refine R_iload_n e_X0_cropNamed_1.2.2.2.2.1 2 rfl ?_
      exact R_ireturn e_X0_cropNamed_1.2.2.2.2.2.1 rfl h
/-! KiteLand$County.hourOfDay()I -/
theorem e_X0_hourOfDay_0 : decode cX0_hourOfDay 0 = .ok (.aload_n 0, 1) ∧ decode cX0_hourOfDay 1 = .ok (.getfield 24, 3) ∧ decode cX0_hourOfDay 4 = .ok (.bipush 12, 2) ∧ decode cX0_hourOfDay 6 = .ok (.irem, 1) ∧ decode cX0_hourOfDay 7 = .ok (.ireturn, 1) := by decide +kernel
theorem S_X0_hourOfDay {G : Kg} {σ : Kmem} {Q : Int → Kmem → Prop} {c : Int} (hc : isC c) (h : (0 ≤ σ c 4 ∧ σ c 4 ≤ 2147483647) ∧ Q ((σ c 4) % 12) σ) : Run G WX M_X0_hourOfDay 0 0 0 [vA G c] σ Q := by
  refine Run.of (by decide +kernel) (by show (1 : Nat) ≤ 1; decide) ?_
  show Ex G WX M_X0_hourOfDay 0 0 0 0 [(0, vA G c)] [] σ Q
  refine R_aload_n e_X0_hourOfDay_0.1 0 rfl ?_
  refine R_getI 0 4 4 e_X0_hourOfDay_0.2.1 f_X0_24 (kC_self hc) (fun _ _ => rfl) rfl ?_
  refine R_bipush e_X0_hourOfDay_0.2.2.1 (by decide) ?_
  obtain ⟨q1, h⟩ := h
  refine R_irem e_X0_hourOfDay_0.2.2.2.1 q1 (by decide) ?_
  exact R_ireturn e_X0_hourOfDay_0.2.2.2.2 rfl h
/-! KiteLand$County.cutSet()I -/
theorem e_X0_cutSet_0 : decode cX0_cutSet 0 = .ok (.iconst 0, 1) ∧ decode cX0_cutSet 1 = .ok (.istore_n 1, 1) ∧ decode cX0_cutSet 2 = .ok (.iconst 0, 1) ∧ decode cX0_cutSet 3 = .ok (.istore_n 2, 1) ∧ decode cX0_cutSet 4 = .ok (.iload_n 2, 1) ∧ decode cX0_cutSet 5 = .ok (.aload_n 0, 1) ∧ decode cX0_cutSet 6 = .ok (.getfield 27, 3) ∧ decode cX0_cutSet 9 = .ok (.if_icmp .ge 27, 3) ∧ decode cX0_cutSet 12 = .ok (.aload_n 0, 1) ∧ decode cX0_cutSet 13 = .ok (.getfield 45, 3) := by decide +kernel
theorem e_X0_cutSet_1 : decode cX0_cutSet 16 = .ok (.iload_n 2, 1) ∧ decode cX0_cutSet 17 = .ok (.aaload, 1) ∧ decode cX0_cutSet 18 = .ok (.getfield 106, 3) ∧ decode cX0_cutSet 21 = .ok (.ifCond .eq 9, 3) ∧ decode cX0_cutSet 24 = .ok (.iload_n 1, 1) ∧ decode cX0_cutSet 25 = .ok (.iconst 1, 1) ∧ decode cX0_cutSet 26 = .ok (.iload_n 2, 1) ∧ decode cX0_cutSet 27 = .ok (.ishl, 1) ∧ decode cX0_cutSet 28 = .ok (.ior, 1) ∧ decode cX0_cutSet 29 = .ok (.istore_n 1, 1) := by decide +kernel
theorem e_X0_cutSet_2 : decode cX0_cutSet 30 = .ok (.iinc 2 1, 3) ∧ decode cX0_cutSet 33 = .ok (.goto (-29), 3) ∧ decode cX0_cutSet 36 = .ok (.iload_n 1, 1) ∧ decode cX0_cutSet 37 = .ok (.ireturn, 1) := by decide +kernel
abbrev E_X0_cutSet_4 (G : Kg) (c l1 l2 : Int) (σ : Kmem) (Q : Int → Kmem → Prop) : Prop := Ex G WX M_X0_cutSet 0 0 0 4 [(0, vA G c), (1, vI l1), (2, vI l2)] [] σ Q
theorem S_X0_cutSet {G : Kg} {σ : Kmem} {Q : Int → Kmem → Prop} {c : Int} (hc : isC c) (h : E_X0_cutSet_4 G c 0 0 σ Q) : Run G WX M_X0_cutSet 0 0 0 [vA G c] σ Q := by
  refine Run.of (by decide +kernel) (by show (1 : Nat) ≤ 3; decide) ?_
  show Ex G WX M_X0_cutSet 0 0 0 0 [(0, vA G c)] [] σ Q
  refine R_iconst e_X0_cutSet_0.1 ?_
  refine R_istore_n (ls2 := [(1, vI 0), (0, vA G c)]) e_X0_cutSet_0.2.1 (by decide) rfl ?_
  refine R_iconst e_X0_cutSet_0.2.2.1 ?_
  refine R_istore_n (ls2 := [(2, vI 0), (1, vI 0), (0, vA G c)]) e_X0_cutSet_0.2.2.2.1 (by decide) rfl ?_
  refine R_ls (ls2 := [(0, vA G c), (1, vI 0), (2, vI 0)]) [2, 1, 0] rfl ?_
  exact h
theorem S_X0_cutSet_4 {G : Kg} {σ : Kmem} {Q : Int → Kmem → Prop} {c l1 l2 : Int} (hc : isC c) (h : (rI l2) ∧ (rI (σ c 5)) ∧ ((σ c 5 ≤ l2 → Q l1 σ) ∧ (l2 < σ c 5 → (0 ≤ l2 ∧ l2 < 6) ∧ (rI (σ (c + 6 + l2) 9)) ∧ ((σ (c + 6 + l2) 9 = 0 → E_X0_cutSet_4 G c l1 (l2 + 1) σ Q) ∧ (σ (c + 6 + l2) 9 ≠ 0 → E_X0_cutSet_4 G c (kor l1 (kshl 1 l2)) (l2 + 1) σ Q))))) : E_X0_cutSet_4 G c l1 l2 σ Q := by
  refine R_iload_n e_X0_cutSet_0.2.2.2.2.1 2 rfl ?_
  refine R_aload_n e_X0_cutSet_0.2.2.2.2.2.1 0 rfl ?_
  refine R_getI 0 5 5 e_X0_cutSet_0.2.2.2.2.2.2.1 f_X0_27 (kC_self hc) (fun _ _ => rfl) rfl ?_
  obtain ⟨q1, h⟩ := h
  obtain ⟨q2, h⟩ := h
  refine R_icmp_ge 36 e_X0_cutSet_0.2.2.2.2.2.2.2.1 (by decide) q1 q2 (fun q => ?_) (fun q => ?_)
  · replace h := h.1 q
    refine R_iload_n e_X0_cutSet_2.2.2.1 1 rfl ?_
    exact R_ireturn e_X0_cutSet_2.2.2.2 rfl h
  · replace h := h.2 q
    refine R_aload_n e_X0_cutSet_0.2.2.2.2.2.2.2.2.1 0 rfl ?_
    refine R_getA 0 10 (c + 3) e_X0_cutSet_0.2.2.2.2.2.2.2.2.2 f_X0_45 (kC_self hc) (fun _ _ => rfl) (kC_r10 hc) (kC_n3 hc) ?_
    refine R_iload_n e_X0_cutSet_1.1 2 rfl ?_
    obtain ⟨q3, h⟩ := h
    refine R_aald 27 6 (c + 6 + l2) e_X0_cutSet_1.2.1 (by decide) (kC_kites hc) q3 (kC_kiteAt hc q3) (kC_kiteN hc q3) ?_
    refine R_getI 3 9 9 e_X0_cutSet_1.2.2.1 f_X0_106 (kC_kite hc q3) (fun _ _ => rfl) rfl ?_
    obtain ⟨q4, h⟩ := h
    refine R_if_eq 30 e_X0_cutSet_1.2.2.2.1 (by decide) q4  (fun q => ?_) (fun q => ?_)
    · replace h := h.1 q
      refine R_iinc (ls2 := [(2, vI (l2 + 1)), (0, vA G c), (1, vI l1)]) e_X0_cutSet_2.1 2 rfl (by decide) rfl ?_
      refine R_goto 4 e_X0_cutSet_2.2.1 (by decide) ?_
      refine R_ls (ls2 := [(0, vA G c), (1, vI l1), (2, vI (l2 + 1))]) [1, 2, 0] rfl ?_
      exact h
    · replace h := h.2 q
      refine R_iload_n e_X0_cutSet_1.2.2.2.2.1 1 rfl ?_
      refine R_iconst e_X0_cutSet_1.2.2.2.2.2.1 ?_
      refine R_iload_n e_X0_cutSet_1.2.2.2.2.2.2.1 2 rfl ?_
      refine R_ishl e_X0_cutSet_1.2.2.2.2.2.2.2.1 ?_
      refine R_ior e_X0_cutSet_1.2.2.2.2.2.2.2.2.1 ?_
      refine R_istore_n (ls2 := [(1, vI (kor l1 (kshl 1 l2))), (0, vA G c), (2, vI l2)]) e_X0_cutSet_1.2.2.2.2.2.2.2.2.2 (by decide) rfl ?_
      refine R_iinc (ls2 := [(2, vI (l2 + 1)), (1, vI (kor l1 (kshl 1 l2))), (0, vA G c)]) e_X0_cutSet_2.1 2 rfl (by decide) rfl ?_
      refine R_goto 4 e_X0_cutSet_2.2.1 (by decide) ?_
      refine R_ls (ls2 := [(0, vA G c), (1, vI (kor l1 (kshl 1 l2))), (2, vI (l2 + 1))]) [2, 1, 0] rfl ?_
      exact h
/-! KiteLand$County.putCutSet(I)V -/
theorem e_X0_putCutSet_0 : decode cX0_putCutSet 0 = .ok (.iconst 0, 1) ∧ decode cX0_putCutSet 1 = .ok (.istore_n 2, 1) ∧ decode cX0_putCutSet 2 = .ok (.iload_n 2, 1) ∧ decode cX0_putCutSet 3 = .ok (.aload_n 0, 1) ∧ decode cX0_putCutSet 4 = .ok (.getfield 27, 3) ∧ decode cX0_putCutSet 7 = .ok (.if_icmp .ge 32, 3) ∧ decode cX0_putCutSet 10 = .ok (.aload_n 0, 1) ∧ decode cX0_putCutSet 11 = .ok (.getfield 45, 3) ∧ decode cX0_putCutSet 14 = .ok (.iload_n 2, 1) ∧ decode cX0_putCutSet 15 = .ok (.aaload, 1) := by decide +kernel
theorem e_X0_putCutSet_1 : decode cX0_putCutSet 16 = .ok (.iload_n 1, 1) ∧ decode cX0_putCutSet 17 = .ok (.iload_n 2, 1) ∧ decode cX0_putCutSet 18 = .ok (.ishr, 1) ∧ decode cX0_putCutSet 19 = .ok (.iconst 1, 1) ∧ decode cX0_putCutSet 20 = .ok (.iand, 1) ∧ decode cX0_putCutSet 21 = .ok (.iconst 1, 1) ∧ decode cX0_putCutSet 22 = .ok (.if_icmp .ne 7, 3) ∧ decode cX0_putCutSet 25 = .ok (.iconst 1, 1) ∧ decode cX0_putCutSet 26 = .ok (.goto 4, 3) ∧ decode cX0_putCutSet 29 = .ok (.iconst 0, 1) := by decide +kernel
theorem e_X0_putCutSet_2 : decode cX0_putCutSet 30 = .ok (.putfield 106, 3) ∧ decode cX0_putCutSet 33 = .ok (.iinc 2 1, 3) ∧ decode cX0_putCutSet 36 = .ok (.goto (-34), 3) ∧ decode cX0_putCutSet 39 = .ok (.return_, 1) := by decide +kernel
abbrev E_X0_putCutSet_2 (G : Kg) (c l1 l2 : Int) (σ : Kmem) (Q : Int → Kmem → Prop) : Prop := Ex G WX M_X0_putCutSet 0 0 0 2 [(0, vA G c), (1, vI l1), (2, vI l2)] [] σ Q
theorem S_X0_putCutSet {G : Kg} {σ : Kmem} {Q : Int → Kmem → Prop} {c l1 : Int} (hc : isC c) (h : E_X0_putCutSet_2 G c l1 0 σ Q) : Run G WX M_X0_putCutSet 0 0 0 [vA G c, vI l1] σ Q := by
  refine Run.of (by decide +kernel) (by show (2 : Nat) ≤ 3; decide) ?_
  show Ex G WX M_X0_putCutSet 0 0 0 0 [(0, vA G c), (1, vI l1)] [] σ Q
  refine R_iconst e_X0_putCutSet_0.1 ?_
  refine R_istore_n (ls2 := [(2, vI 0), (0, vA G c), (1, vI l1)]) e_X0_putCutSet_0.2.1 (by decide) rfl ?_
  refine R_ls (ls2 := [(0, vA G c), (1, vI l1), (2, vI 0)]) [1, 2, 0] rfl ?_
  exact h
theorem S_X0_putCutSet_2 {G : Kg} {σ : Kmem} {Q : Int → Kmem → Prop} {c l1 l2 : Int} (hc : isC c) (h : (rI l2) ∧ (rI (σ c 5)) ∧ ((σ c 5 ≤ l2 → Q 0 σ) ∧ (l2 < σ c 5 → (0 ≤ l2 ∧ l2 < 6) ∧ (rI (kand (kshr l1 l2) 1)) ∧ ((kand (kshr l1 l2) 1 ≠ 1 → E_X0_putCutSet_2 G c l1 (l2 + 1) (kup σ (c + 6 + l2) 9 0) Q) ∧ (kand (kshr l1 l2) 1 = 1 → E_X0_putCutSet_2 G c l1 (l2 + 1) (kup σ (c + 6 + l2) 9 1) Q))))) : E_X0_putCutSet_2 G c l1 l2 σ Q := by
  refine R_iload_n e_X0_putCutSet_0.2.2.1 2 rfl ?_
  refine R_aload_n e_X0_putCutSet_0.2.2.2.1 0 rfl ?_
  refine R_getI 0 5 5 e_X0_putCutSet_0.2.2.2.2.1 f_X0_27 (kC_self hc) (fun _ _ => rfl) rfl ?_
  obtain ⟨q1, h⟩ := h
  obtain ⟨q2, h⟩ := h
  refine R_icmp_ge 39 e_X0_putCutSet_0.2.2.2.2.2.1 (by decide) q1 q2 (fun q => ?_) (fun q => ?_)
  · replace h := h.1 q
    exact R_return e_X0_putCutSet_2.2.2.2 rfl h
  · replace h := h.2 q
    refine R_aload_n e_X0_putCutSet_0.2.2.2.2.2.2.1 0 rfl ?_
    refine R_getA 0 10 (c + 3) e_X0_putCutSet_0.2.2.2.2.2.2.2.1 f_X0_45 (kC_self hc) (fun _ _ => rfl) (kC_r10 hc) (kC_n3 hc) ?_
    refine R_iload_n e_X0_putCutSet_0.2.2.2.2.2.2.2.2.1 2 rfl ?_
    obtain ⟨q3, h⟩ := h
    refine R_aald 27 6 (c + 6 + l2) e_X0_putCutSet_0.2.2.2.2.2.2.2.2.2 (by decide) (kC_kites hc) q3 (kC_kiteAt hc q3) (kC_kiteN hc q3) ?_
    refine R_iload_n e_X0_putCutSet_1.1 1 rfl ?_
    refine R_iload_n e_X0_putCutSet_1.2.1 2 rfl ?_
    refine R_ishr e_X0_putCutSet_1.2.2.1 ?_
    refine R_iconst e_X0_putCutSet_1.2.2.2.1 ?_
    refine R_iand e_X0_putCutSet_1.2.2.2.2.1 ?_
    refine R_iconst e_X0_putCutSet_1.2.2.2.2.2.1 ?_
    obtain ⟨q4, h⟩ := h
    refine R_icmp_ne 29 e_X0_putCutSet_1.2.2.2.2.2.2.1 (by decide) q4 (by decide) (fun q => ?_) (fun q => ?_)
    · replace h := h.1 q
      refine R_iconst e_X0_putCutSet_1.2.2.2.2.2.2.2.2.2 ?_
      refine R_putZ 3 9 9 WX_ok e_X0_putCutSet_2.1 f_X0_106 (kC_kite hc q3) rfl rfl rfl (Or.inl rfl) ?_
      refine R_iinc (ls2 := [(2, vI (l2 + 1)), (0, vA G c), (1, vI l1)]) e_X0_putCutSet_2.2.1 2 rfl (by decide) rfl ?_
      refine R_goto 2 e_X0_putCutSet_2.2.2.1 (by decide) ?_
      refine R_ls (ls2 := [(0, vA G c), (1, vI l1), (2, vI (l2 + 1))]) [1, 2, 0] rfl ?_
      exact h
    · replace h := h.2 q
      refine R_iconst e_X0_putCutSet_1.2.2.2.2.2.2.2.1 ?_
      refine R_goto 30 e_X0_putCutSet_1.2.2.2.2.2.2.2.2.1 (by decide) ?_
      refine R_putZ 3 9 9 WX_ok e_X0_putCutSet_2.1 f_X0_106 (kC_kite hc q3) rfl rfl rfl (Or.inr rfl) ?_
      refine R_iinc (ls2 := [(2, vI (l2 + 1)), (0, vA G c), (1, vI l1)]) e_X0_putCutSet_2.2.1 2 rfl (by decide) rfl ?_
      refine R_goto 2 e_X0_putCutSet_2.2.2.1 (by decide) ?_
      refine R_ls (ls2 := [(0, vA G c), (1, vI l1), (2, vI (l2 + 1))]) [1, 2, 0] rfl ?_
      exact h
/-! KiteLand$County.ripeSet()I -/
theorem e_X0_ripeSet_0 : decode cX0_ripeSet 0 = .ok (.iconst 0, 1) ∧ decode cX0_ripeSet 1 = .ok (.istore_n 1, 1) ∧ decode cX0_ripeSet 2 = .ok (.iconst 0, 1) ∧ decode cX0_ripeSet 3 = .ok (.istore_n 2, 1) ∧ decode cX0_ripeSet 4 = .ok (.iload_n 2, 1) ∧ decode cX0_ripeSet 5 = .ok (.aload_n 0, 1) ∧ decode cX0_ripeSet 6 = .ok (.getfield 30, 3) ∧ decode cX0_ripeSet 9 = .ok (.if_icmp .ge 27, 3) ∧ decode cX0_ripeSet 12 = .ok (.aload_n 0, 1) ∧ decode cX0_ripeSet 13 = .ok (.getfield 51, 3) := by decide +kernel
theorem e_X0_ripeSet_1 : decode cX0_ripeSet 16 = .ok (.iload_n 2, 1) ∧ decode cX0_ripeSet 17 = .ok (.aaload, 1) ∧ decode cX0_ripeSet 18 = .ok (.invokevirtual 110, 3) ∧ decode cX0_ripeSet 21 = .ok (.ifCond .eq 9, 3) ∧ decode cX0_ripeSet 24 = .ok (.iload_n 1, 1) ∧ decode cX0_ripeSet 25 = .ok (.iconst 1, 1) ∧ decode cX0_ripeSet 26 = .ok (.iload_n 2, 1) ∧ decode cX0_ripeSet 27 = .ok (.ishl, 1) ∧ decode cX0_ripeSet 28 = .ok (.ior, 1) ∧ decode cX0_ripeSet 29 = .ok (.istore_n 1, 1) := by decide +kernel
theorem e_X0_ripeSet_2 : decode cX0_ripeSet 30 = .ok (.iinc 2 1, 3) ∧ decode cX0_ripeSet 33 = .ok (.goto (-29), 3) ∧ decode cX0_ripeSet 36 = .ok (.iload_n 1, 1) ∧ decode cX0_ripeSet 37 = .ok (.ireturn, 1) := by decide +kernel
abbrev E_X0_ripeSet_4 (G : Kg) (c l1 l2 : Int) (σ : Kmem) (Q : Int → Kmem → Prop) : Prop := Ex G WX M_X0_ripeSet 1 0 0 4 [(0, vA G c), (1, vI l1), (2, vI l2)] [] σ Q
theorem S_X0_ripeSet {G : Kg} {σ : Kmem} {Q : Int → Kmem → Prop} {c : Int} (hc : isC c) (h : E_X0_ripeSet_4 G c 0 0 σ Q) : Run G WX M_X0_ripeSet 1 0 0 [vA G c] σ Q := by
  refine Run.of (by decide +kernel) (by show (1 : Nat) ≤ 3; decide) ?_
  show Ex G WX M_X0_ripeSet 1 0 0 0 [(0, vA G c)] [] σ Q
  refine R_iconst e_X0_ripeSet_0.1 ?_
  refine R_istore_n (ls2 := [(1, vI 0), (0, vA G c)]) e_X0_ripeSet_0.2.1 (by decide) rfl ?_
  refine R_iconst e_X0_ripeSet_0.2.2.1 ?_
  refine R_istore_n (ls2 := [(2, vI 0), (1, vI 0), (0, vA G c)]) e_X0_ripeSet_0.2.2.2.1 (by decide) rfl ?_
  refine R_ls (ls2 := [(0, vA G c), (1, vI 0), (2, vI 0)]) [2, 1, 0] rfl ?_
  exact h
theorem S_X0_ripeSet_4 {G : Kg} {σ : Kmem} {Q : Int → Kmem → Prop} {c l1 l2 : Int} (hc : isC c) (h : (rI l2) ∧ (rI (σ c 6)) ∧ ((σ c 6 ≤ l2 → Q l1 σ) ∧ (l2 < σ c 6 → (0 ≤ l2 ∧ l2 < 8) ∧ Run G WX M_X2_isRipe 0 0 0 [vA G (c + 12 + l2)] σ (fun r4 s5 => (rI r4) ∧ ((r4 = 0 → E_X0_ripeSet_4 G c l1 (l2 + 1) s5 Q) ∧ (r4 ≠ 0 → E_X0_ripeSet_4 G c (kor l1 (kshl 1 l2)) (l2 + 1) s5 Q)))))) : E_X0_ripeSet_4 G c l1 l2 σ Q := by
  refine R_iload_n e_X0_ripeSet_0.2.2.2.2.1 2 rfl ?_
  refine R_aload_n e_X0_ripeSet_0.2.2.2.2.2.1 0 rfl ?_
  refine R_getI 0 6 6 e_X0_ripeSet_0.2.2.2.2.2.2.1 f_X0_30 (kC_self hc) (fun _ _ => rfl) rfl ?_
  obtain ⟨q1, h⟩ := h
  obtain ⟨q2, h⟩ := h
  refine R_icmp_ge 36 e_X0_ripeSet_0.2.2.2.2.2.2.2.1 (by decide) q1 q2 (fun q => ?_) (fun q => ?_)
  · replace h := h.1 q
    refine R_iload_n e_X0_ripeSet_2.2.2.1 1 rfl ?_
    exact R_ireturn e_X0_ripeSet_2.2.2.2 rfl h
  · replace h := h.2 q
    refine R_aload_n e_X0_ripeSet_0.2.2.2.2.2.2.2.2.1 0 rfl ?_
    refine R_getA 0 11 (c + 4) e_X0_ripeSet_0.2.2.2.2.2.2.2.2.2 f_X0_51 (kC_self hc) (fun _ _ => rfl) (kC_r11 hc) (kC_n4 hc) ?_
    refine R_iload_n e_X0_ripeSet_1.1 2 rfl ?_
    obtain ⟨q3, h⟩ := h
    refine R_aald 28 8 (c + 12 + l2) e_X0_ripeSet_1.2.1 (by decide) (kC_crops hc) q3 (kC_cropAt hc q3) (kC_cropN hc q3) ?_
    refine R_callV (mc := 0) (ms := 0) (mc' := 0) (ms' := 0) (M' := M_X2_isRipe) (d' := 0) (as := []) (st := []) 2 0 e_X0_ripeSet_1.2.2.1 (kCVof m_X2_isRipe l_X0_110) rfl (by decide) (kC_crop hc q3) (by decide) (by decide) rfl rfl (by show (0 : Nat) ≤ 8; decide) ?_
    refine Run.mono h (fun r4 s5 h => ?_)
    refine R_eqs (st2 := [vI r4]) rfl rfl ?_
    obtain ⟨q6, h⟩ := h
    refine R_if_eq 30 e_X0_ripeSet_1.2.2.2.1 (by decide) q6  (fun q => ?_) (fun q => ?_)
    · replace h := h.1 q
      refine R_iinc (ls2 := [(2, vI (l2 + 1)), (0, vA G c), (1, vI l1)]) e_X0_ripeSet_2.1 2 rfl (by decide) rfl ?_
      refine R_goto 4 e_X0_ripeSet_2.2.1 (by decide) ?_
      refine R_ls (ls2 := [(0, vA G c), (1, vI l1), (2, vI (l2 + 1))]) [1, 2, 0] rfl ?_
      exact h
    · replace h := h.2 q
      refine R_iload_n e_X0_ripeSet_1.2.2.2.2.1 1 rfl ?_
      refine R_iconst e_X0_ripeSet_1.2.2.2.2.2.1 ?_
      refine R_iload_n e_X0_ripeSet_1.2.2.2.2.2.2.1 2 rfl ?_
      refine R_ishl e_X0_ripeSet_1.2.2.2.2.2.2.2.1 ?_
      refine R_ior e_X0_ripeSet_1.2.2.2.2.2.2.2.2.1 ?_
      refine R_istore_n (ls2 := [(1, vI (kor l1 (kshl 1 l2))), (0, vA G c), (2, vI l2)]) e_X0_ripeSet_1.2.2.2.2.2.2.2.2.2 (by decide) rfl ?_
      refine R_iinc (ls2 := [(2, vI (l2 + 1)), (1, vI (kor l1 (kshl 1 l2))), (0, vA G c)]) e_X0_ripeSet_2.1 2 rfl (by decide) rfl ?_
      refine R_goto 4 e_X0_ripeSet_2.2.1 (by decide) ?_
      refine R_ls (ls2 := [(0, vA G c), (1, vI (kor l1 (kshl 1 l2))), (2, vI (l2 + 1))]) [2, 1, 0] rfl ?_
      exact h
/-! KiteLand$County.mayStep(II)Z -/
theorem e_X0_mayStep_0 : decode cX0_mayStep 0 = .ok (.aload_n 0, 1) ∧ decode cX0_mayStep 1 = .ok (.aload_n 0, 1) ∧ decode cX0_mayStep 2 = .ok (.getfield 45, 3) ∧ decode cX0_mayStep 5 = .ok (.iload_n 1, 1) ∧ decode cX0_mayStep 6 = .ok (.aaload, 1) ∧ decode cX0_mayStep 7 = .ok (.getfield 114, 3) ∧ decode cX0_mayStep 10 = .ok (.getstatic 117, 3) ∧ decode cX0_mayStep 13 = .ok (.iload_n 2, 1) ∧ decode cX0_mayStep 14 = .ok (.iaload, 1) ∧ decode cX0_mayStep 15 = .ok (.iadd, 1) := by decide +kernel
theorem e_X0_mayStep_1 : decode cX0_mayStep 16 = .ok (.aload_n 0, 1) ∧ decode cX0_mayStep 17 = .ok (.getfield 45, 3) ∧ decode cX0_mayStep 20 = .ok (.iload_n 1, 1) ∧ decode cX0_mayStep 21 = .ok (.aaload, 1) ∧ decode cX0_mayStep 22 = .ok (.getfield 120, 3) ∧ decode cX0_mayStep 25 = .ok (.getstatic 123, 3) ∧ decode cX0_mayStep 28 = .ok (.iload_n 2, 1) ∧ decode cX0_mayStep 29 = .ok (.iaload, 1) ∧ decode cX0_mayStep 30 = .ok (.iadd, 1) ∧ decode cX0_mayStep 31 = .ok (.invokevirtual 89, 3) := by decide +kernel
theorem e_X0_mayStep_2 : decode cX0_mayStep 34 = .ok (.ireturn, 1) := by decide +kernel
theorem S_X0_mayStep {G : Kg} {σ : Kmem} {Q : Int → Kmem → Prop} {c l1 l2 : Int} (hc : isC c) (h : (0 ≤ l1 ∧ l1 < 6) ∧ (0 ≤ l2 ∧ l2 < 5) ∧ (0 ≤ l1 ∧ l1 < 6) ∧ (0 ≤ l2 ∧ l2 < 5) ∧ Run G WX M_X0_hasField 1 0 0 [vA G c, vI ((σ (c + 6 + l1) 1) + (kst0 l2)), vI ((σ (c + 6 + l1) 2) + (kst1 l2))] σ (fun r5 s6 => (r5 = 0 ∨ r5 = 1) ∧ Q r5 s6)) : Run G WX M_X0_mayStep 2 0 0 [vA G c, vI l1, vI l2] σ Q := by
  refine Run.of (by decide +kernel) (by show (3 : Nat) ≤ 3; decide) ?_
  show Ex G WX M_X0_mayStep 2 0 0 0 [(0, vA G c), (1, vI l1), (2, vI l2)] [] σ Q
  refine R_aload_n e_X0_mayStep_0.1 0 rfl ?_
  refine R_aload_n e_X0_mayStep_0.2.1 0 rfl ?_
  refine R_getA 0 10 (c + 3) e_X0_mayStep_0.2.2.1 f_X0_45 (kC_self hc) (fun _ _ => rfl) (kC_r10 hc) (kC_n3 hc) ?_
  refine R_iload_n e_X0_mayStep_0.2.2.2.1 1 rfl ?_
  obtain ⟨q1, h⟩ := h
  refine R_aald 27 6 (c + 6 + l1) e_X0_mayStep_0.2.2.2.2.1 (by decide) (kC_kites hc) q1 (kC_kiteAt hc q1) (kC_kiteN hc q1) ?_
  refine R_getI 3 1 1 e_X0_mayStep_0.2.2.2.2.2.1 f_X0_114 (kC_kite hc q1) (fun _ _ => rfl) rfl ?_
  refine R_getsN (i := 0) (-1) e_X0_mayStep_0.2.2.2.2.2.2.1 rfl kn_X0_117 rfl ?_
  refine R_iload_n e_X0_mayStep_0.2.2.2.2.2.2.2.1 2 rfl ?_
  obtain ⟨q2, h⟩ := h
  refine R_ialdS (i := 0) (-1) (kst0 l2) e_X0_mayStep_0.2.2.2.2.2.2.2.2.1 rfl rfl q2 (by decide) (kst0_v q2) ?_
  refine R_iadd e_X0_mayStep_0.2.2.2.2.2.2.2.2.2 ?_
  refine R_aload_n e_X0_mayStep_1.1 0 rfl ?_
  refine R_getA 0 10 (c + 3) e_X0_mayStep_1.2.1 f_X0_45 (kC_self hc) (fun _ _ => rfl) (kC_r10 hc) (kC_n3 hc) ?_
  refine R_iload_n e_X0_mayStep_1.2.2.1 1 rfl ?_
  obtain ⟨q3, h⟩ := h
  refine R_aald 27 6 (c + 6 + l1) e_X0_mayStep_1.2.2.2.1 (by decide) (kC_kites hc) q3 (kC_kiteAt hc q3) (kC_kiteN hc q3) ?_
  refine R_getI 3 2 2 e_X0_mayStep_1.2.2.2.2.1 f_X0_120 (kC_kite hc q3) (fun _ _ => rfl) rfl ?_
  refine R_getsN (i := 1) (-2) e_X0_mayStep_1.2.2.2.2.2.1 rfl kn_X0_123 rfl ?_
  refine R_iload_n e_X0_mayStep_1.2.2.2.2.2.2.1 2 rfl ?_
  obtain ⟨q4, h⟩ := h
  refine R_ialdS (i := 1) (-2) (kst1 l2) e_X0_mayStep_1.2.2.2.2.2.2.2.1 rfl rfl q4 (by decide) (kst1_v q4) ?_
  refine R_iadd e_X0_mayStep_1.2.2.2.2.2.2.2.2.1 ?_
  refine R_callV (mc := 0) (ms := 0) (mc' := 0) (ms' := 0) (M' := M_X0_hasField) (d' := 1) (as := [vI ((σ (c + 6 + l1) 1) + (kst0 l2)), vI ((σ (c + 6 + l1) 2) + (kst1 l2))]) (st := []) 0 2 e_X0_mayStep_1.2.2.2.2.2.2.2.2.2 (kCVof m_X0_hasField l_X0_89) rfl (by decide) (kC_self hc) (by decide) (by decide) rfl rfl (by show (0 : Nat) ≤ 8; decide) ?_
  refine Run.mono h (fun r5 s6 h => ?_)
  refine R_eqs (st2 := [vI r5]) rfl rfl ?_
  obtain ⟨q7, h⟩ := h
  exact R_zreturn e_X0_mayStep_2 rfl q7 h
/-! KiteLand$County.stepHand(II)V -/
theorem e_X0_stepHand_0 : decode cX0_stepHand 0 = .ok (.aload_n 0, 1) ∧ decode cX0_stepHand 1 = .ok (.getfield 45, 3) ∧ decode cX0_stepHand 4 = .ok (.iload_n 1, 1) ∧ decode cX0_stepHand 5 = .ok (.aaload, 1) ∧ decode cX0_stepHand 6 = .ok (.dup, 1) ∧ decode cX0_stepHand 7 = .ok (.getfield 114, 3) ∧ decode cX0_stepHand 10 = .ok (.getstatic 117, 3) ∧ decode cX0_stepHand 13 = .ok (.iload_n 2, 1) ∧ decode cX0_stepHand 14 = .ok (.iaload, 1) ∧ decode cX0_stepHand 15 = .ok (.iadd, 1) := by decide +kernel
theorem e_X0_stepHand_1 : decode cX0_stepHand 16 = .ok (.putfield 114, 3) ∧ decode cX0_stepHand 19 = .ok (.aload_n 0, 1) ∧ decode cX0_stepHand 20 = .ok (.getfield 45, 3) ∧ decode cX0_stepHand 23 = .ok (.iload_n 1, 1) ∧ decode cX0_stepHand 24 = .ok (.aaload, 1) ∧ decode cX0_stepHand 25 = .ok (.dup, 1) ∧ decode cX0_stepHand 26 = .ok (.getfield 120, 3) ∧ decode cX0_stepHand 29 = .ok (.getstatic 123, 3) ∧ decode cX0_stepHand 32 = .ok (.iload_n 2, 1) ∧ decode cX0_stepHand 33 = .ok (.iaload, 1) := by decide +kernel
theorem e_X0_stepHand_2 : decode cX0_stepHand 34 = .ok (.iadd, 1) ∧ decode cX0_stepHand 35 = .ok (.putfield 120, 3) ∧ decode cX0_stepHand 38 = .ok (.iload_n 2, 1) ∧ decode cX0_stepHand 39 = .ok (.ifCond .eq 18, 3) ∧ decode cX0_stepHand 42 = .ok (.aload_n 0, 1) ∧ decode cX0_stepHand 43 = .ok (.getfield 45, 3) ∧ decode cX0_stepHand 46 = .ok (.iload_n 1, 1) ∧ decode cX0_stepHand 47 = .ok (.aaload, 1) ∧ decode cX0_stepHand 48 = .ok (.dup, 1) ∧ decode cX0_stepHand 49 = .ok (.getfield 126, 3) := by decide +kernel
theorem e_X0_stepHand_3 : decode cX0_stepHand 52 = .ok (.iconst 1, 1) ∧ decode cX0_stepHand 53 = .ok (.iadd, 1) ∧ decode cX0_stepHand 54 = .ok (.putfield 126, 3) ∧ decode cX0_stepHand 57 = .ok (.return_, 1) := by decide +kernel
theorem S_X0_stepHand {G : Kg} {σ : Kmem} {Q : Int → Kmem → Prop} {c l1 l2 : Int} (hc : isC c) (h : (0 ≤ l1 ∧ l1 < 6) ∧ (0 ≤ l2 ∧ l2 < 5) ∧ (0 ≤ l1 ∧ l1 < 6) ∧ (0 ≤ l2 ∧ l2 < 5) ∧ (rI l2) ∧ ((l2 = 0 → Q 0 (kup (kup σ (c + 6 + l1) 1 ((σ (c + 6 + l1) 1) + (kst0 l2))) (c + 6 + l1) 2 (((kup σ (c + 6 + l1) 1 ((σ (c + 6 + l1) 1) + (kst0 l2))) (c + 6 + l1) 2) + (kst1 l2)))) ∧ (l2 ≠ 0 → (0 ≤ l1 ∧ l1 < 6) ∧ Q 0 (kup (kup (kup σ (c + 6 + l1) 1 ((σ (c + 6 + l1) 1) + (kst0 l2))) (c + 6 + l1) 2 (((kup σ (c + 6 + l1) 1 ((σ (c + 6 + l1) 1) + (kst0 l2))) (c + 6 + l1) 2) + (kst1 l2))) (c + 6 + l1) 8 (((kup (kup σ (c + 6 + l1) 1 ((σ (c + 6 + l1) 1) + (kst0 l2))) (c + 6 + l1) 2 (((kup σ (c + 6 + l1) 1 ((σ (c + 6 + l1) 1) + (kst0 l2))) (c + 6 + l1) 2) + (kst1 l2))) (c + 6 + l1) 8) + 1))))) : Run G WX M_X0_stepHand 0 0 0 [vA G c, vI l1, vI l2] σ Q := by
  refine Run.of (by decide +kernel) (by show (3 : Nat) ≤ 3; decide) ?_
  show Ex G WX M_X0_stepHand 0 0 0 0 [(0, vA G c), (1, vI l1), (2, vI l2)] [] σ Q
  refine R_aload_n e_X0_stepHand_0.1 0 rfl ?_
  refine R_getA 0 10 (c + 3) e_X0_stepHand_0.2.1 f_X0_45 (kC_self hc) (fun _ _ => rfl) (kC_r10 hc) (kC_n3 hc) ?_
  refine R_iload_n e_X0_stepHand_0.2.2.1 1 rfl ?_
  obtain ⟨q1, h⟩ := h
  refine R_aald 27 6 (c + 6 + l1) e_X0_stepHand_0.2.2.2.1 (by decide) (kC_kites hc) q1 (kC_kiteAt hc q1) (kC_kiteN hc q1) ?_
  refine R_dup e_X0_stepHand_0.2.2.2.2.1 rfl ?_
  refine R_getI 3 1 1 e_X0_stepHand_0.2.2.2.2.2.1 f_X0_114 (kC_kite hc q1) (fun _ _ => rfl) rfl ?_
  refine R_getsN (i := 0) (-1) e_X0_stepHand_0.2.2.2.2.2.2.1 rfl kn_X0_117 rfl ?_
  refine R_iload_n e_X0_stepHand_0.2.2.2.2.2.2.2.1 2 rfl ?_
  obtain ⟨q2, h⟩ := h
  refine R_ialdS (i := 0) (-1) (kst0 l2) e_X0_stepHand_0.2.2.2.2.2.2.2.2.1 rfl rfl q2 (by decide) (kst0_v q2) ?_
  refine R_iadd e_X0_stepHand_0.2.2.2.2.2.2.2.2.2 ?_
  refine R_putI 3 1 1 WX_ok e_X0_stepHand_1.1 f_X0_114 (kC_kite hc q1) rfl rfl rfl ?_
  refine R_aload_n e_X0_stepHand_1.2.1 0 rfl ?_
  refine R_getA 0 10 (c + 3) e_X0_stepHand_1.2.2.1 f_X0_45 (kC_self hc) (fun _ _ => rfl) (kC_r10 hc) (kC_n3 hc) ?_
  refine R_iload_n e_X0_stepHand_1.2.2.2.1 1 rfl ?_
  obtain ⟨q3, h⟩ := h
  refine R_aald 27 6 (c + 6 + l1) e_X0_stepHand_1.2.2.2.2.1 (by decide) (kC_kites hc) q3 (kC_kiteAt hc q3) (kC_kiteN hc q3) ?_
  refine R_dup e_X0_stepHand_1.2.2.2.2.2.1 rfl ?_
  refine R_getI 3 2 2 e_X0_stepHand_1.2.2.2.2.2.2.1 f_X0_120 (kC_kite hc q3) (fun _ _ => rfl) rfl ?_
  refine R_getsN (i := 1) (-2) e_X0_stepHand_1.2.2.2.2.2.2.2.1 rfl kn_X0_123 rfl ?_
  refine R_iload_n e_X0_stepHand_1.2.2.2.2.2.2.2.2.1 2 rfl ?_
  obtain ⟨q4, h⟩ := h
  refine R_ialdS (i := 1) (-2) (kst1 l2) e_X0_stepHand_1.2.2.2.2.2.2.2.2.2 rfl rfl q4 (by decide) (kst1_v q4) ?_
  refine R_iadd e_X0_stepHand_2.1 ?_
  refine R_putI 3 2 2 WX_ok e_X0_stepHand_2.2.1 f_X0_120 (kC_kite hc q3) rfl rfl rfl ?_
  refine R_iload_n e_X0_stepHand_2.2.2.1 2 rfl ?_
  obtain ⟨q5, h⟩ := h
  refine R_if_eq 57 e_X0_stepHand_2.2.2.2.1 (by decide) q5  (fun q => ?_) (fun q => ?_)
  · replace h := h.1 q
    exact R_return e_X0_stepHand_3.2.2.2 rfl h
  · replace h := h.2 q
    refine R_aload_n e_X0_stepHand_2.2.2.2.2.1 0 rfl ?_
    refine R_getA 0 10 (c + 3) e_X0_stepHand_2.2.2.2.2.2.1 f_X0_45 (kC_self hc) (fun _ _ => rfl) (kC_r10 hc) (kC_n3 hc) ?_
    refine R_iload_n e_X0_stepHand_2.2.2.2.2.2.2.1 1 rfl ?_
    obtain ⟨q6, h⟩ := h
    refine R_aald 27 6 (c + 6 + l1) e_X0_stepHand_2.2.2.2.2.2.2.2.1 (by decide) (kC_kites hc) q6 (kC_kiteAt hc q6) (kC_kiteN hc q6) ?_
    refine R_dup e_X0_stepHand_2.2.2.2.2.2.2.2.2.1 rfl ?_
    refine R_getI 3 8 8 e_X0_stepHand_2.2.2.2.2.2.2.2.2.2 f_X0_126 (kC_kite hc q6) (fun _ _ => rfl) rfl ?_
    refine R_iconst e_X0_stepHand_3.1 ?_
    refine R_iadd e_X0_stepHand_3.2.1 ?_
    refine R_putI 3 8 8 WX_ok e_X0_stepHand_3.2.2.1 f_X0_126 (kC_kite hc q6) rfl rfl rfl ?_
    exact R_return e_X0_stepHand_3.2.2.2 rfl h
/-! KiteLand$County.goBy(LKiteLand$Sky;I)I -/
theorem e_X0_goBy_0 : decode cX0_goBy 0 = .ok (.iconst 0, 1) ∧ decode cX0_goBy 1 = .ok (.istore_n 3, 1) ∧ decode cX0_goBy 2 = .ok (.iconst 0, 1) ∧ decode cX0_goBy 3 = .ok (.istore 4, 2) ∧ decode cX0_goBy 5 = .ok (.iload 4, 2) ∧ decode cX0_goBy 7 = .ok (.iload_n 2, 1) ∧ decode cX0_goBy 8 = .ok (.if_icmp .ge 62, 3) ∧ decode cX0_goBy 11 = .ok (.iload_n 3, 1) ∧ decode cX0_goBy 12 = .ok (.aload_n 0, 1) ∧ decode cX0_goBy 13 = .ok (.aload_n 1, 1) := by decide +kernel
theorem e_X0_goBy_1 : decode cX0_goBy 14 = .ok (.invokevirtual 129, 3) ∧ decode cX0_goBy 17 = .ok (.ior, 1) ∧ decode cX0_goBy 18 = .ok (.istore_n 3, 1) ∧ decode cX0_goBy 19 = .ok (.aload_n 0, 1) ∧ decode cX0_goBy 20 = .ok (.aload_n 1, 1) ∧ decode cX0_goBy 21 = .ok (.invokevirtual 133, 3) ∧ decode cX0_goBy 24 = .ok (.iconst 0, 1) ∧ decode cX0_goBy 25 = .ok (.istore 5, 2) ∧ decode cX0_goBy 27 = .ok (.iload 5, 2) ∧ decode cX0_goBy 29 = .ok (.aload_n 0, 1) := by decide +kernel
theorem e_X0_goBy_2 : decode cX0_goBy 30 = .ok (.getfield 33, 3) ∧ decode cX0_goBy 33 = .ok (.if_icmp .ge 21, 3) ∧ decode cX0_goBy 36 = .ok (.aload_n 0, 1) ∧ decode cX0_goBy 37 = .ok (.aload_n 0, 1) ∧ decode cX0_goBy 38 = .ok (.getfield 57, 3) ∧ decode cX0_goBy 41 = .ok (.iload 5, 2) ∧ decode cX0_goBy 43 = .ok (.aaload, 1) ∧ decode cX0_goBy 44 = .ok (.aload_n 1, 1) ∧ decode cX0_goBy 45 = .ok (.invokevirtual 137, 3) ∧ decode cX0_goBy 48 = .ok (.iinc 5 1, 3) := by decide +kernel
theorem e_X0_goBy_3 : decode cX0_goBy 51 = .ok (.goto (-24), 3) ∧ decode cX0_goBy 54 = .ok (.aload_n 0, 1) ∧ decode cX0_goBy 55 = .ok (.dup, 1) ∧ decode cX0_goBy 56 = .ok (.getfield 24, 3) ∧ decode cX0_goBy 59 = .ok (.iconst 1, 1) ∧ decode cX0_goBy 60 = .ok (.iadd, 1) ∧ decode cX0_goBy 61 = .ok (.putfield 24, 3) ∧ decode cX0_goBy 64 = .ok (.iinc 4 1, 3) ∧ decode cX0_goBy 67 = .ok (.goto (-62), 3) ∧ decode cX0_goBy 70 = .ok (.iload_n 3, 1) := by decide +kernel
theorem e_X0_goBy_4 : decode cX0_goBy 71 = .ok (.ireturn, 1) := by decide +kernel
abbrev E_X0_goBy_5 (G : Kg) (c l2 l3 l4 : Int) (σ : Kmem) (Q : Int → Kmem → Prop) : Prop := Ex G WX M_X0_goBy 4 0 0 5 [(0, vA G c), (1, vA G 58), (2, vI l2), (3, vI l3), (4, vI l4)] [] σ Q
abbrev E_X0_goBy_27 (G : Kg) (c l2 l3 l4 l5 : Int) (σ : Kmem) (Q : Int → Kmem → Prop) : Prop := Ex G WX M_X0_goBy 4 0 0 27 [(0, vA G c), (1, vA G 58), (2, vI l2), (3, vI l3), (4, vI l4), (5, vI l5)] [] σ Q
theorem S_X0_goBy {G : Kg} {σ : Kmem} {Q : Int → Kmem → Prop} {c l2 : Int} (hc : isC c) (h : E_X0_goBy_5 G c l2 0 0 σ Q) : Run G WX M_X0_goBy 4 0 0 [vA G c, vA G 58, vI l2] σ Q := by
  refine Run.of (by decide +kernel) (by show (3 : Nat) ≤ 6; decide) ?_
  show Ex G WX M_X0_goBy 4 0 0 0 [(0, vA G c), (1, vA G 58), (2, vI l2)] [] σ Q
  refine R_iconst e_X0_goBy_0.1 ?_
  refine R_istore_n (ls2 := [(3, vI 0), (0, vA G c), (1, vA G 58), (2, vI l2)]) e_X0_goBy_0.2.1 (by decide) rfl ?_
  refine R_iconst e_X0_goBy_0.2.2.1 ?_
  refine R_istore (ls2 := [(4, vI 0), (3, vI 0), (0, vA G c), (1, vA G 58), (2, vI l2)]) e_X0_goBy_0.2.2.2.1 (by decide) rfl ?_
  refine R_ls (ls2 := [(0, vA G c), (1, vA G 58), (2, vI l2), (3, vI 0), (4, vI 0)]) [2, 3, 4, 1, 0] rfl ?_
  exact h
theorem S_X0_goBy_5 {G : Kg} {σ : Kmem} {Q : Int → Kmem → Prop} {c l2 l3 l4 : Int} (hc : isC c) (h : (rI l4) ∧ (rI l2) ∧ ((l2 ≤ l4 → Q l3 σ) ∧ (l4 < l2 → Run G WX M_X0_loseCrossed 3 0 0 [vA G c, vA G 58] σ (fun r3 s4 => Run G WX M_X0_growCrops 2 0 0 [vA G c, vA G 58] s4 (fun r5 s6 => E_X0_goBy_27 G c l2 (kor l3 r3) l4 0 s6 Q))))) : E_X0_goBy_5 G c l2 l3 l4 σ Q := by
  refine R_iload e_X0_goBy_0.2.2.2.2.1 4 rfl ?_
  refine R_iload_n e_X0_goBy_0.2.2.2.2.2.1 2 rfl ?_
  obtain ⟨q1, h⟩ := h
  obtain ⟨q2, h⟩ := h
  refine R_icmp_ge 70 e_X0_goBy_0.2.2.2.2.2.2.1 (by decide) q1 q2 (fun q => ?_) (fun q => ?_)
  · replace h := h.1 q
    refine R_iload_n e_X0_goBy_3.2.2.2.2.2.2.2.2.2 3 rfl ?_
    exact R_ireturn e_X0_goBy_4 rfl h
  · replace h := h.2 q
    refine R_iload_n e_X0_goBy_0.2.2.2.2.2.2.2.1 3 rfl ?_
    refine R_aload_n e_X0_goBy_0.2.2.2.2.2.2.2.2.1 0 rfl ?_
    refine R_aload_n e_X0_goBy_0.2.2.2.2.2.2.2.2.2 1 rfl ?_
    refine R_callV (mc := 0) (ms := 0) (mc' := 0) (ms' := 0) (M' := M_X0_loseCrossed) (d' := 3) (as := [vA G 58]) (st := [vI l3]) 0 1 e_X0_goBy_1.1 (kCVof m_X0_loseCrossed l_X0_129) rfl (by decide) (kC_self hc) (by decide) (by decide) rfl rfl (by show (1 : Nat) ≤ 8; decide) ?_
    refine Run.mono h (fun r3 s4 h => ?_)
    refine R_eqs (st2 := [vI r3, vI l3]) rfl rfl ?_
    refine R_ior e_X0_goBy_1.2.1 ?_
    refine R_istore_n (ls2 := [(3, vI (kor l3 r3)), (0, vA G c), (1, vA G 58), (2, vI l2), (4, vI l4)]) e_X0_goBy_1.2.2.1 (by decide) rfl ?_
    refine R_aload_n e_X0_goBy_1.2.2.2.1 1 rfl ?_
    refine R_aload_n e_X0_goBy_1.2.2.2.2.1 2 rfl ?_
    refine R_callV (mc := 0) (ms := 0) (mc' := 0) (ms' := 0) (M' := M_X0_growCrops) (d' := 2) (as := [vA G 58]) (st := []) 0 1 e_X0_goBy_1.2.2.2.2.2.1 (kCVof m_X0_growCrops l_X0_133) rfl (by decide) (kC_self hc) (by decide) (by decide) rfl rfl (by show (0 : Nat) ≤ 8; decide) ?_
    refine Run.mono h (fun r5 s6 h => ?_)
    refine R_eqs (st2 := []) rfl rfl ?_
    refine R_iconst e_X0_goBy_1.2.2.2.2.2.2.1 ?_
    refine R_istore (ls2 := [(5, vI 0), (3, vI (kor l3 r3)), (0, vA G c), (1, vA G 58), (2, vI l2), (4, vI l4)]) e_X0_goBy_1.2.2.2.2.2.2.2.1 (by decide) rfl ?_
    refine R_ls (ls2 := [(0, vA G c), (1, vA G 58), (2, vI l2), (3, vI (kor l3 r3)), (4, vI l4), (5, vI 0)]) [2, 3, 4, 1, 5, 0] rfl ?_
    exact h
theorem S_X0_goBy_27 {G : Kg} {σ : Kmem} {Q : Int → Kmem → Prop} {c l2 l3 l4 l5 : Int} (hc : isC c) (h : (rI l5) ∧ (rI (σ c 7)) ∧ ((σ c 7 ≤ l5 → E_X0_goBy_5 G c l2 l3 (l4 + 1) (kup σ c 4 ((σ c 4) + 1)) Q) ∧ (l5 < σ c 7 → (0 ≤ l5 ∧ l5 < 6) ∧ Run G WX M_X0_follow 3 0 0 [vA G c, vA G (c + 20 + l5), vA G 58] σ (fun r10 s11 => E_X0_goBy_27 G c l2 l3 l4 (l5 + 1) s11 Q)))) : E_X0_goBy_27 G c l2 l3 l4 l5 σ Q := by
  refine R_iload e_X0_goBy_1.2.2.2.2.2.2.2.2.1 5 rfl ?_
  refine R_aload_n e_X0_goBy_1.2.2.2.2.2.2.2.2.2 0 rfl ?_
  refine R_getI 0 7 7 e_X0_goBy_2.1 f_X0_33 (kC_self hc) (fun _ _ => rfl) rfl ?_
  obtain ⟨q7, h⟩ := h
  obtain ⟨q8, h⟩ := h
  refine R_icmp_ge 54 e_X0_goBy_2.2.1 (by decide) q7 q8 (fun q => ?_) (fun q => ?_)
  · replace h := h.1 q
    refine R_aload_n e_X0_goBy_3.2.1 0 rfl ?_
    refine R_dup e_X0_goBy_3.2.2.1 rfl ?_
    refine R_getI 0 4 4 e_X0_goBy_3.2.2.2.1 f_X0_24 (kC_self hc) (fun _ _ => rfl) rfl ?_
    refine R_iconst e_X0_goBy_3.2.2.2.2.1 ?_
    refine R_iadd e_X0_goBy_3.2.2.2.2.2.1 ?_
    refine R_putI 0 4 4 WX_ok e_X0_goBy_3.2.2.2.2.2.2.1 f_X0_24 (kC_self hc) rfl rfl rfl ?_
    refine R_iinc (ls2 := [(4, vI (l4 + 1)), (0, vA G c), (1, vA G 58), (2, vI l2), (3, vI l3), (5, vI l5)]) e_X0_goBy_3.2.2.2.2.2.2.2.1 4 rfl (by decide) rfl ?_
    refine R_goto 5 e_X0_goBy_3.2.2.2.2.2.2.2.2.1 (by decide) ?_
    refine R_ls (ls2 := [(0, vA G c), (1, vA G 58), (2, vI l2), (3, vI l3), (4, vI (l4 + 1))]) [1, 2, 3, 4, 0] rfl ?_
    exact h
  · replace h := h.2 q
    refine R_aload_n e_X0_goBy_2.2.2.1 0 rfl ?_
    refine R_aload_n e_X0_goBy_2.2.2.2.1 0 rfl ?_
    refine R_getA 0 12 (c + 5) e_X0_goBy_2.2.2.2.2.1 f_X0_57 (kC_self hc) (fun _ _ => rfl) (kC_r12 hc) (kC_n5 hc) ?_
    refine R_iload e_X0_goBy_2.2.2.2.2.2.1 5 rfl ?_
    obtain ⟨q9, h⟩ := h
    refine R_aald 29 6 (c + 20 + l5) e_X0_goBy_2.2.2.2.2.2.2.1 (by decide) (kC_tens hc) q9 (kC_tenAt hc q9) (kC_tenN hc q9) ?_
    refine R_aload_n e_X0_goBy_2.2.2.2.2.2.2.2.1 1 rfl ?_
    refine R_callV (mc := 0) (ms := 0) (mc' := 0) (ms' := 0) (M' := M_X0_follow) (d' := 3) (as := [vA G (c + 20 + l5), vA G 58]) (st := []) 0 2 e_X0_goBy_2.2.2.2.2.2.2.2.2.1 (kCVof m_X0_follow l_X0_137) rfl (by decide) (kC_self hc) (by decide) (by decide) rfl rfl (by show (0 : Nat) ≤ 8; decide) ?_
    refine Run.mono h (fun r10 s11 h => ?_)
    refine R_eqs (st2 := []) rfl rfl ?_
    refine R_iinc (ls2 := [(5, vI (l5 + 1)), (0, vA G c), (1, vA G 58), (2, vI l2), (3, vI l3), (4, vI l4)]) e_X0_goBy_2.2.2.2.2.2.2.2.2.2 5 rfl (by decide) rfl ?_
    refine R_goto 27 e_X0_goBy_3.1 (by decide) ?_
    refine R_ls (ls2 := [(0, vA G c), (1, vA G 58), (2, vI l2), (3, vI l3), (4, vI l4), (5, vI (l5 + 1))]) [1, 2, 3, 4, 5, 0] rfl ?_
    exact h
/-! KiteLand$County.loseCrossed(LKiteLand$Sky;)I -/
theorem e_X0_loseCrossed_0 : decode cX0_loseCrossed 0 = .ok (.aload_n 1, 1) ∧ decode cX0_loseCrossed 1 = .ok (.aload_n 0, 1) ∧ decode cX0_loseCrossed 2 = .ok (.aload_n 0, 1) ∧ decode cX0_loseCrossed 3 = .ok (.invokevirtual 141, 3) ∧ decode cX0_loseCrossed 6 = .ok (.aload_n 0, 1) ∧ decode cX0_loseCrossed 7 = .ok (.invokevirtual 145, 3) ∧ decode cX0_loseCrossed 10 = .ok (.invokevirtual 148, 3) ∧ decode cX0_loseCrossed 13 = .ok (.aload_n 1, 1) ∧ decode cX0_loseCrossed 14 = .ok (.invokevirtual 154, 3) ∧ decode cX0_loseCrossed 17 = .ok (.istore_n 2, 1) := by decide +kernel
theorem e_X0_loseCrossed_1 : decode cX0_loseCrossed 18 = .ok (.aload_n 0, 1) ∧ decode cX0_loseCrossed 19 = .ok (.aload_n 0, 1) ∧ decode cX0_loseCrossed 20 = .ok (.invokevirtual 145, 3) ∧ decode cX0_loseCrossed 23 = .ok (.iload_n 2, 1) ∧ decode cX0_loseCrossed 24 = .ok (.ior, 1) ∧ decode cX0_loseCrossed 25 = .ok (.invokevirtual 157, 3) ∧ decode cX0_loseCrossed 28 = .ok (.aload_n 1, 1) ∧ decode cX0_loseCrossed 29 = .ok (.iload_n 2, 1) ∧ decode cX0_loseCrossed 30 = .ok (.invokevirtual 161, 3) ∧ decode cX0_loseCrossed 33 = .ok (.aload_n 1, 1) := by decide +kernel
theorem e_X0_loseCrossed_2 : decode cX0_loseCrossed 34 = .ok (.invokevirtual 164, 3) ∧ decode cX0_loseCrossed 37 = .ok (.iload_n 2, 1) ∧ decode cX0_loseCrossed 38 = .ok (.ireturn, 1) := by decide +kernel
theorem S_X0_loseCrossed {G : Kg} {σ : Kmem} {Q : Int → Kmem → Prop} {c : Int} (hc : isC c) (h : Run G WX M_X0_hourOfDay 0 0 0 [vA G c] σ (fun r1 s2 => Run G WX M_X0_cutSet 0 0 0 [vA G c] s2 (fun r3 s4 => Run G WX M_X8_raise 1 0 0 [vA G 58, vA G c, vI r1, vI r3] s4 (fun r5 s6 => Run G WX M_X8_crossedSet 1 0 0 [vA G 58] s6 (fun r7 s8 => Run G WX M_X0_cutSet 0 0 0 [vA G c] s8 (fun r9 s10 => Run G WX M_X0_putCutSet 0 0 0 [vA G c, vI (kor r9 r7)] s10 (fun r11 s12 => Run G WX M_X8_drop 0 0 0 [vA G 58, vI r7] s12 (fun r13 s14 => Run G WX M_X8_castShade 2 0 0 [vA G 58] s14 (fun r15 s16 => Q r7 s16))))))))) : Run G WX M_X0_loseCrossed 3 0 0 [vA G c, vA G 58] σ Q := by
  refine Run.of (by decide +kernel) (by show (2 : Nat) ≤ 3; decide) ?_
  show Ex G WX M_X0_loseCrossed 3 0 0 0 [(0, vA G c), (1, vA G 58)] [] σ Q
  refine R_aload_n e_X0_loseCrossed_0.1 1 rfl ?_
  refine R_aload_n e_X0_loseCrossed_0.2.1 0 rfl ?_
  refine R_aload_n e_X0_loseCrossed_0.2.2.1 0 rfl ?_
  refine R_callV (mc := 0) (ms := 0) (mc' := 0) (ms' := 0) (M' := M_X0_hourOfDay) (d' := 0) (as := []) (st := [vA G c, vA G 58]) 0 0 e_X0_loseCrossed_0.2.2.2.1 (kCVof m_X0_hourOfDay l_X0_141) rfl (by decide) (kC_self hc) (by decide) (by decide) rfl rfl (by show (2 : Nat) ≤ 8; decide) ?_
  refine Run.mono h (fun r1 s2 h => ?_)
  refine R_eqs (st2 := [vI r1, vA G c, vA G 58]) rfl rfl ?_
  refine R_aload_n e_X0_loseCrossed_0.2.2.2.2.1 0 rfl ?_
  refine R_callV (mc := 0) (ms := 0) (mc' := 0) (ms' := 0) (M' := M_X0_cutSet) (d' := 0) (as := []) (st := [vI r1, vA G c, vA G 58]) 0 0 e_X0_loseCrossed_0.2.2.2.2.2.1 (kCVof m_X0_cutSet l_X0_145) rfl (by decide) (kC_self hc) (by decide) (by decide) rfl rfl (by show (3 : Nat) ≤ 8; decide) ?_
  refine Run.mono h (fun r3 s4 h => ?_)
  refine R_eqs (st2 := [vI r3, vI r1, vA G c, vA G 58]) rfl rfl ?_
  refine R_callV (mc := 0) (ms := 0) (mc' := 0) (ms' := 0) (M' := M_X8_raise) (d' := 1) (as := [vA G c, vI r1, vI r3]) (st := []) 8 3 e_X0_loseCrossed_0.2.2.2.2.2.2.1 (kCVof m_X8_raise l_X0_148) rfl (by decide) kx_58 (by decide) (by decide) rfl rfl (by show (0 : Nat) ≤ 8; decide) ?_
  refine Run.mono h (fun r5 s6 h => ?_)
  refine R_eqs (st2 := []) rfl rfl ?_
  refine R_aload_n e_X0_loseCrossed_0.2.2.2.2.2.2.2.1 1 rfl ?_
  refine R_callV (mc := 0) (ms := 0) (mc' := 0) (ms' := 0) (M' := M_X8_crossedSet) (d' := 1) (as := []) (st := []) 8 0 e_X0_loseCrossed_0.2.2.2.2.2.2.2.2.1 (kCVof m_X8_crossedSet l_X0_154) rfl (by decide) kx_58 (by decide) (by decide) rfl rfl (by show (0 : Nat) ≤ 8; decide) ?_
  refine Run.mono h (fun r7 s8 h => ?_)
  refine R_eqs (st2 := [vI r7]) rfl rfl ?_
  refine R_istore_n (ls2 := [(2, vI r7), (0, vA G c), (1, vA G 58)]) e_X0_loseCrossed_0.2.2.2.2.2.2.2.2.2 (by decide) rfl ?_
  refine R_aload_n e_X0_loseCrossed_1.1 1 rfl ?_
  refine R_aload_n e_X0_loseCrossed_1.2.1 1 rfl ?_
  refine R_callV (mc := 0) (ms := 0) (mc' := 0) (ms' := 0) (M' := M_X0_cutSet) (d' := 0) (as := []) (st := [vA G c]) 0 0 e_X0_loseCrossed_1.2.2.1 (kCVof m_X0_cutSet l_X0_145) rfl (by decide) (kC_self hc) (by decide) (by decide) rfl rfl (by show (1 : Nat) ≤ 8; decide) ?_
  refine Run.mono h (fun r9 s10 h => ?_)
  refine R_eqs (st2 := [vI r9, vA G c]) rfl rfl ?_
  refine R_iload_n e_X0_loseCrossed_1.2.2.2.1 0 rfl ?_
  refine R_ior e_X0_loseCrossed_1.2.2.2.2.1 ?_
  refine R_callV (mc := 0) (ms := 0) (mc' := 0) (ms' := 0) (M' := M_X0_putCutSet) (d' := 0) (as := [vI (kor r9 r7)]) (st := []) 0 1 e_X0_loseCrossed_1.2.2.2.2.2.1 (kCVof m_X0_putCutSet l_X0_157) rfl (by decide) (kC_self hc) (by decide) (by decide) rfl rfl (by show (0 : Nat) ≤ 8; decide) ?_
  refine Run.mono h (fun r11 s12 h => ?_)
  refine R_eqs (st2 := []) rfl rfl ?_
  refine R_aload_n e_X0_loseCrossed_1.2.2.2.2.2.2.1 2 rfl ?_
  refine R_iload_n e_X0_loseCrossed_1.2.2.2.2.2.2.2.1 0 rfl ?_
  refine R_callV (mc := 0) (ms := 0) (mc' := 0) (ms' := 0) (M' := M_X8_drop) (d' := 0) (as := [vI r7]) (st := []) 8 1 e_X0_loseCrossed_1.2.2.2.2.2.2.2.2.1 (kCVof m_X8_drop l_X0_161) rfl (by decide) kx_58 (by decide) (by decide) rfl rfl (by show (0 : Nat) ≤ 8; decide) ?_
  refine Run.mono h (fun r13 s14 h => ?_)
  refine R_eqs (st2 := []) rfl rfl ?_
  refine R_aload_n e_X0_loseCrossed_1.2.2.2.2.2.2.2.2.2 2 rfl ?_
  refine R_callV (mc := 0) (ms := 0) (mc' := 0) (ms' := 0) (M' := M_X8_castShade) (d' := 2) (as := []) (st := []) 8 0 e_X0_loseCrossed_2.1 (kCVof m_X8_castShade l_X0_164) rfl (by decide) kx_58 (by decide) (by decide) rfl rfl (by show (0 : Nat) ≤ 8; decide) ?_
  refine Run.mono h (fun r15 s16 h => ?_)
  refine R_eqs (st2 := []) rfl rfl ?_
  refine R_iload_n e_X0_loseCrossed_2.2.1 0 rfl ?_
  exact R_ireturn e_X0_loseCrossed_2.2.2 rfl h
/-! KiteLand$County.growCrops(LKiteLand$Sky;)V -/
theorem e_X0_growCrops_0 : decode cX0_growCrops 0 = .ok (.iconst 0, 1) ∧ decode cX0_growCrops 1 = .ok (.istore_n 2, 1) ∧ decode cX0_growCrops 2 = .ok (.iload_n 2, 1) ∧ decode cX0_growCrops 3 = .ok (.aload_n 0, 1) ∧ decode cX0_growCrops 4 = .ok (.getfield 30, 3) ∧ decode cX0_growCrops 7 = .ok (.if_icmp .ge 56, 3) ∧ decode cX0_growCrops 10 = .ok (.aload_n 1, 1) ∧ decode cX0_growCrops 11 = .ok (.aload_n 0, 1) ∧ decode cX0_growCrops 12 = .ok (.getfield 51, 3) ∧ decode cX0_growCrops 15 = .ok (.iload_n 2, 1) := by decide +kernel
theorem e_X0_growCrops_1 : decode cX0_growCrops 16 = .ok (.aaload, 1) ∧ decode cX0_growCrops 17 = .ok (.getfield 167, 3) ∧ decode cX0_growCrops 20 = .ok (.aload_n 0, 1) ∧ decode cX0_growCrops 21 = .ok (.getfield 51, 3) ∧ decode cX0_growCrops 24 = .ok (.iload_n 2, 1) ∧ decode cX0_growCrops 25 = .ok (.aaload, 1) ∧ decode cX0_growCrops 26 = .ok (.getfield 168, 3) ∧ decode cX0_growCrops 29 = .ok (.invokevirtual 169, 3) ∧ decode cX0_growCrops 32 = .ok (.istore_n 3, 1) ∧ decode cX0_growCrops 33 = .ok (.iload_n 3, 1) := by decide +kernel
theorem e_X0_growCrops_2 : decode cX0_growCrops 34 = .ok (.iconst (-1), 1) ∧ decode cX0_growCrops 35 = .ok (.if_icmp .eq 22, 3) ∧ decode cX0_growCrops 38 = .ok (.aload_n 0, 1) ∧ decode cX0_growCrops 39 = .ok (.getfield 51, 3) ∧ decode cX0_growCrops 42 = .ok (.iload_n 2, 1) ∧ decode cX0_growCrops 43 = .ok (.aaload, 1) ∧ decode cX0_growCrops 44 = .ok (.invokevirtual 173, 3) ∧ decode cX0_growCrops 47 = .ok (.aload_n 0, 1) ∧ decode cX0_growCrops 48 = .ok (.getfield 45, 3) ∧ decode cX0_growCrops 51 = .ok (.iload_n 3, 1) := by decide +kernel
theorem e_X0_growCrops_3 : decode cX0_growCrops 52 = .ok (.aaload, 1) ∧ decode cX0_growCrops 53 = .ok (.iconst 1, 1) ∧ decode cX0_growCrops 54 = .ok (.invokevirtual 176, 3) ∧ decode cX0_growCrops 57 = .ok (.iinc 2 1, 3) ∧ decode cX0_growCrops 60 = .ok (.goto (-58), 3) ∧ decode cX0_growCrops 63 = .ok (.return_, 1) := by decide +kernel
abbrev E_X0_growCrops_2 (G : Kg) (c l2 : Int) (σ : Kmem) (Q : Int → Kmem → Prop) : Prop := Ex G WX M_X0_growCrops 2 0 0 2 [(0, vA G c), (1, vA G 58), (2, vI l2)] [] σ Q
theorem S_X0_growCrops {G : Kg} {σ : Kmem} {Q : Int → Kmem → Prop} {c : Int} (hc : isC c) (h : E_X0_growCrops_2 G c 0 σ Q) : Run G WX M_X0_growCrops 2 0 0 [vA G c, vA G 58] σ Q := by
  refine Run.of (by decide +kernel) (by show (2 : Nat) ≤ 4; decide) ?_
  show Ex G WX M_X0_growCrops 2 0 0 0 [(0, vA G c), (1, vA G 58)] [] σ Q
  refine R_iconst e_X0_growCrops_0.1 ?_
  refine R_istore_n (ls2 := [(2, vI 0), (0, vA G c), (1, vA G 58)]) e_X0_growCrops_0.2.1 (by decide) rfl ?_
  refine R_ls (ls2 := [(0, vA G c), (1, vA G 58), (2, vI 0)]) [1, 2, 0] rfl ?_
  exact h
theorem S_X0_growCrops_2 {G : Kg} {σ : Kmem} {Q : Int → Kmem → Prop} {c l2 : Int} (hc : isC c) (h : (rI l2) ∧ (rI (σ c 6)) ∧ ((σ c 6 ≤ l2 → Q 0 σ) ∧ (l2 < σ c 6 → (0 ≤ l2 ∧ l2 < 8) ∧ (0 ≤ l2 ∧ l2 < 8) ∧ Run G WX M_X8_ownerOf 0 0 0 [vA G 58, vI (σ (c + 12 + l2) 1), vI (σ (c + 12 + l2) 2)] σ (fun r5 s6 => (rI r5) ∧ ((r5 = -1 → E_X0_growCrops_2 G c (l2 + 1) s6 Q) ∧ (r5 ≠ -1 → (0 ≤ l2 ∧ l2 < 8) ∧ Run G WX M_X2_grow 1 0 0 [vA G (c + 12 + l2)] s6 (fun r9 s10 => (0 ≤ r5 ∧ r5 < 6) ∧ Run G WX M_X3_earn 1 0 0 [vA G (c + 6 + r5), vI 1] s10 (fun r12 s13 => E_X0_growCrops_2 G c (l2 + 1) s13 Q)))))))) : E_X0_growCrops_2 G c l2 σ Q := by
  refine R_iload_n e_X0_growCrops_0.2.2.1 2 rfl ?_
  refine R_aload_n e_X0_growCrops_0.2.2.2.1 0 rfl ?_
  refine R_getI 0 6 6 e_X0_growCrops_0.2.2.2.2.1 f_X0_30 (kC_self hc) (fun _ _ => rfl) rfl ?_
  obtain ⟨q1, h⟩ := h
  obtain ⟨q2, h⟩ := h
  refine R_icmp_ge 63 e_X0_growCrops_0.2.2.2.2.2.1 (by decide) q1 q2 (fun q => ?_) (fun q => ?_)
  · replace h := h.1 q
    exact R_return e_X0_growCrops_3.2.2.2.2.2 rfl h
  · replace h := h.2 q
    refine R_aload_n e_X0_growCrops_0.2.2.2.2.2.2.1 1 rfl ?_
    refine R_aload_n e_X0_growCrops_0.2.2.2.2.2.2.2.1 0 rfl ?_
    refine R_getA 0 11 (c + 4) e_X0_growCrops_0.2.2.2.2.2.2.2.2.1 f_X0_51 (kC_self hc) (fun _ _ => rfl) (kC_r11 hc) (kC_n4 hc) ?_
    refine R_iload_n e_X0_growCrops_0.2.2.2.2.2.2.2.2.2 2 rfl ?_
    obtain ⟨q3, h⟩ := h
    refine R_aald 28 8 (c + 12 + l2) e_X0_growCrops_1.1 (by decide) (kC_crops hc) q3 (kC_cropAt hc q3) (kC_cropN hc q3) ?_
    refine R_getI 2 1 1 e_X0_growCrops_1.2.1 f_X0_167 (kC_crop hc q3) (fun _ _ => rfl) rfl ?_
    refine R_aload_n e_X0_growCrops_1.2.2.1 0 rfl ?_
    refine R_getA 0 11 (c + 4) e_X0_growCrops_1.2.2.2.1 f_X0_51 (kC_self hc) (fun _ _ => rfl) (kC_r11 hc) (kC_n4 hc) ?_
    refine R_iload_n e_X0_growCrops_1.2.2.2.2.1 2 rfl ?_
    obtain ⟨q4, h⟩ := h
    refine R_aald 28 8 (c + 12 + l2) e_X0_growCrops_1.2.2.2.2.2.1 (by decide) (kC_crops hc) q4 (kC_cropAt hc q4) (kC_cropN hc q4) ?_
    refine R_getI 2 2 2 e_X0_growCrops_1.2.2.2.2.2.2.1 f_X0_168 (kC_crop hc q4) (fun _ _ => rfl) rfl ?_
    refine R_callV (mc := 0) (ms := 0) (mc' := 0) (ms' := 0) (M' := M_X8_ownerOf) (d' := 0) (as := [vI (σ (c + 12 + l2) 1), vI (σ (c + 12 + l2) 2)]) (st := []) 8 2 e_X0_growCrops_1.2.2.2.2.2.2.2.1 (kCVof m_X8_ownerOf l_X0_169) rfl (by decide) kx_58 (by decide) (by decide) rfl rfl (by show (0 : Nat) ≤ 8; decide) ?_
    refine Run.mono h (fun r5 s6 h => ?_)
    refine R_eqs (st2 := [vI r5]) rfl rfl ?_
    refine R_istore_n (ls2 := [(3, vI r5), (0, vA G c), (1, vA G 58), (2, vI l2)]) e_X0_growCrops_1.2.2.2.2.2.2.2.2.1 (by decide) rfl ?_
    refine R_iload_n e_X0_growCrops_1.2.2.2.2.2.2.2.2.2 0 rfl ?_
    refine R_iconst e_X0_growCrops_2.1 ?_
    obtain ⟨q7, h⟩ := h
    refine R_icmp_eq 57 e_X0_growCrops_2.2.1 (by decide) q7 (by decide) (fun q => ?_) (fun q => ?_)
    · replace h := h.1 q
      refine R_iinc (ls2 := [(2, vI (l2 + 1)), (3, vI r5), (0, vA G c), (1, vA G 58)]) e_X0_growCrops_3.2.2.2.1 3 rfl (by decide) rfl ?_
      refine R_goto 2 e_X0_growCrops_3.2.2.2.2.1 (by decide) ?_
      refine R_ls (ls2 := [(0, vA G c), (1, vA G 58), (2, vI (l2 + 1))]) [2, 3, 0] rfl ?_
      exact h
    · replace h := h.2 q
      refine R_aload_n e_X0_growCrops_2.2.2.1 1 rfl ?_
      refine R_getA 0 11 (c + 4) e_X0_growCrops_2.2.2.2.1 f_X0_51 (kC_self hc) (fun _ _ => rfl) (kC_r11 hc) (kC_n4 hc) ?_
      refine R_iload_n e_X0_growCrops_2.2.2.2.2.1 3 rfl ?_
      obtain ⟨q8, h⟩ := h
      refine R_aald 28 8 (c + 12 + l2) e_X0_growCrops_2.2.2.2.2.2.1 (by decide) (kC_crops hc) q8 (kC_cropAt hc q8) (kC_cropN hc q8) ?_
      refine R_callV (mc := 0) (ms := 0) (mc' := 0) (ms' := 0) (M' := M_X2_grow) (d' := 1) (as := []) (st := []) 2 0 e_X0_growCrops_2.2.2.2.2.2.2.1 (kCVof m_X2_grow l_X0_173) rfl (by decide) (kC_crop hc q8) (by decide) (by decide) rfl rfl (by show (0 : Nat) ≤ 8; decide) ?_
      refine Run.mono h (fun r9 s10 h => ?_)
      refine R_eqs (st2 := []) rfl rfl ?_
      refine R_aload_n e_X0_growCrops_2.2.2.2.2.2.2.2.1 1 rfl ?_
      refine R_getA 0 10 (c + 3) e_X0_growCrops_2.2.2.2.2.2.2.2.2.1 f_X0_45 (kC_self hc) (fun _ _ => rfl) (kC_r10 hc) (kC_n3 hc) ?_
      refine R_iload_n e_X0_growCrops_2.2.2.2.2.2.2.2.2.2 0 rfl ?_
      obtain ⟨q11, h⟩ := h
      refine R_aald 27 6 (c + 6 + r5) e_X0_growCrops_3.1 (by decide) (kC_kites hc) q11 (kC_kiteAt hc q11) (kC_kiteN hc q11) ?_
      refine R_iconst e_X0_growCrops_3.2.1 ?_
      refine R_callV (mc := 0) (ms := 0) (mc' := 0) (ms' := 0) (M' := M_X3_earn) (d' := 1) (as := [vI 1]) (st := []) 3 1 e_X0_growCrops_3.2.2.1 (kCVof m_X3_earn l_X0_176) rfl (by decide) (kC_kite hc q11) (by decide) (by decide) rfl rfl (by show (0 : Nat) ≤ 8; decide) ?_
      refine Run.mono h (fun r12 s13 h => ?_)
      refine R_eqs (st2 := []) rfl rfl ?_
      refine R_iinc (ls2 := [(2, vI (l2 + 1)), (3, vI r5), (0, vA G c), (1, vA G 58)]) e_X0_growCrops_3.2.2.2.1 3 rfl (by decide) rfl ?_
      refine R_goto 2 e_X0_growCrops_3.2.2.2.2.1 (by decide) ?_
      refine R_ls (ls2 := [(0, vA G c), (1, vA G 58), (2, vI (l2 + 1))]) [2, 3, 0] rfl ?_
      exact h
/-! KiteLand$County.follow(LKiteLand$Tenant;LKiteLand$Sky;)V -/
theorem e_X0_follow_0 : decode cX0_follow 0 = .ok (.aload_n 2, 1) ∧ decode cX0_follow 1 = .ok (.aload_n 1, 1) ∧ decode cX0_follow 2 = .ok (.getfield 179, 3) ∧ decode cX0_follow 5 = .ok (.aload_n 1, 1) ∧ decode cX0_follow 6 = .ok (.getfield 180, 3) ∧ decode cX0_follow 9 = .ok (.invokevirtual 169, 3) ∧ decode cX0_follow 12 = .ok (.aload_n 1, 1) ∧ decode cX0_follow 13 = .ok (.getfield 181, 3) ∧ decode cX0_follow 16 = .ok (.if_icmp .ne 27, 3) ∧ decode cX0_follow 19 = .ok (.aload_n 1, 1) := by decide +kernel
theorem e_X0_follow_1 : decode cX0_follow 20 = .ok (.dup, 1) ∧ decode cX0_follow 21 = .ok (.getfield 184, 3) ∧ decode cX0_follow 24 = .ok (.iconst 1, 1) ∧ decode cX0_follow 25 = .ok (.iadd, 1) ∧ decode cX0_follow 26 = .ok (.putfield 184, 3) ∧ decode cX0_follow 29 = .ok (.aload_n 0, 1) ∧ decode cX0_follow 30 = .ok (.getfield 45, 3) ∧ decode cX0_follow 33 = .ok (.aload_n 1, 1) ∧ decode cX0_follow 34 = .ok (.getfield 181, 3) ∧ decode cX0_follow 37 = .ok (.aaload, 1) := by decide +kernel
theorem e_X0_follow_2 : decode cX0_follow 38 = .ok (.iconst 1, 1) ∧ decode cX0_follow 39 = .ok (.invokevirtual 176, 3) ∧ decode cX0_follow 42 = .ok (.return_, 1) ∧ decode cX0_follow 43 = .ok (.aload_n 2, 1) ∧ decode cX0_follow 44 = .ok (.aload_n 1, 1) ∧ decode cX0_follow 45 = .ok (.invokevirtual 187, 3) ∧ decode cX0_follow 48 = .ok (.istore_n 3, 1) ∧ decode cX0_follow 49 = .ok (.iload_n 3, 1) ∧ decode cX0_follow 50 = .ok (.iconst (-1), 1) ∧ decode cX0_follow 51 = .ok (.if_icmp .ne 16, 3) := by decide +kernel
theorem e_X0_follow_3 : decode cX0_follow 54 = .ok (.aload_n 1, 1) ∧ decode cX0_follow 55 = .ok (.dup, 1) ∧ decode cX0_follow 56 = .ok (.getfield 191, 3) ∧ decode cX0_follow 59 = .ok (.iconst 1, 1) ∧ decode cX0_follow 60 = .ok (.iadd, 1) ∧ decode cX0_follow 61 = .ok (.putfield 191, 3) ∧ decode cX0_follow 64 = .ok (.goto 15, 3) ∧ decode cX0_follow 67 = .ok (.aload_n 1, 1) ∧ decode cX0_follow 68 = .ok (.iload_n 3, 1) ∧ decode cX0_follow 69 = .ok (.bipush 9, 2) := by decide +kernel
theorem e_X0_follow_4 : decode cX0_follow 71 = .ok (.irem, 1) ∧ decode cX0_follow 72 = .ok (.iload_n 3, 1) ∧ decode cX0_follow 73 = .ok (.bipush 9, 2) ∧ decode cX0_follow 75 = .ok (.idiv, 1) ∧ decode cX0_follow 76 = .ok (.invokevirtual 194, 3) ∧ decode cX0_follow 79 = .ok (.return_, 1) := by decide +kernel
theorem S_X0_follow {G : Kg} {σ : Kmem} {Q : Int → Kmem → Prop} {c a : Int} (hc : isC c) (ha : kIsX a 9) (h : Run G WX M_X8_ownerOf 0 0 0 [vA G 58, vI (σ a 1), vI (σ a 2)] σ (fun r1 s2 => (rI r1) ∧ (rI (s2 a 3)) ∧ ((r1 ≠ s2 a 3 → Run G WX M_X8_nearestOf 2 0 0 [vA G 58, vA G a] s2 (fun r5 s6 => (rI r5) ∧ ((r5 ≠ -1 → (0 ≤ r5 ∧ r5 ≤ 2147483647) ∧ (0 ≤ r5 ∧ r5 ≤ 2147483647) ∧ Run G WX M_X9_stepTowards 0 0 0 [vA G a, vI (r5 % 9), vI (r5 / 9)] s6 (fun r10 s11 => Q 0 s11)) ∧ (r5 = -1 → Q 0 (kup s6 a 5 ((s6 a 5) + 1)))))) ∧ (r1 = s2 a 3 → (0 ≤ (kup s2 a 4 ((s2 a 4) + 1)) a 3 ∧ (kup s2 a 4 ((s2 a 4) + 1)) a 3 < 6) ∧ Run G WX M_X3_earn 1 0 0 [vA G (c + 6 + ((kup s2 a 4 ((s2 a 4) + 1)) a 3)), vI 1] (kup s2 a 4 ((s2 a 4) + 1)) (fun r13 s14 => Q 0 s14))))) : Run G WX M_X0_follow 3 0 0 [vA G c, vA G a, vA G 58] σ Q := by
  refine Run.of (by decide +kernel) (by show (3 : Nat) ≤ 4; decide) ?_
  show Ex G WX M_X0_follow 3 0 0 0 [(0, vA G c), (1, vA G a), (2, vA G 58)] [] σ Q
  refine R_aload_n e_X0_follow_0.1 2 rfl ?_
  refine R_aload_n e_X0_follow_0.2.1 1 rfl ?_
  refine R_getI 9 1 1 e_X0_follow_0.2.2.1 f_X0_179 (kLX ha) (fun _ _ => rfl) rfl ?_
  refine R_aload_n e_X0_follow_0.2.2.2.1 1 rfl ?_
  refine R_getI 9 2 2 e_X0_follow_0.2.2.2.2.1 f_X0_180 (kLX ha) (fun _ _ => rfl) rfl ?_
  refine R_callV (mc := 0) (ms := 0) (mc' := 0) (ms' := 0) (M' := M_X8_ownerOf) (d' := 0) (as := [vI (σ a 1), vI (σ a 2)]) (st := []) 8 2 e_X0_follow_0.2.2.2.2.2.1 (kCVof m_X8_ownerOf l_X0_169) rfl (by decide) kx_58 (by decide) (by decide) rfl rfl (by show (0 : Nat) ≤ 8; decide) ?_
  refine Run.mono h (fun r1 s2 h => ?_)
  refine R_eqs (st2 := [vI r1]) rfl rfl ?_
  refine R_aload_n e_X0_follow_0.2.2.2.2.2.2.1 1 rfl ?_
  refine R_getI 9 3 3 e_X0_follow_0.2.2.2.2.2.2.2.1 f_X0_181 (kLX ha) (fun _ _ => rfl) rfl ?_
  obtain ⟨q3, h⟩ := h
  obtain ⟨q4, h⟩ := h
  refine R_icmp_ne 43 e_X0_follow_0.2.2.2.2.2.2.2.2.1 (by decide) q3 q4 (fun q => ?_) (fun q => ?_)
  · replace h := h.1 q
    refine R_aload_n e_X0_follow_2.2.2.2.1 2 rfl ?_
    refine R_aload_n e_X0_follow_2.2.2.2.2.1 1 rfl ?_
    refine R_callV (mc := 0) (ms := 0) (mc' := 0) (ms' := 0) (M' := M_X8_nearestOf) (d' := 2) (as := [vA G a]) (st := []) 8 1 e_X0_follow_2.2.2.2.2.2.1 (kCVof m_X8_nearestOf l_X0_187) rfl (by decide) kx_58 (by decide) (by decide) rfl rfl (by show (0 : Nat) ≤ 8; decide) ?_
    refine Run.mono h (fun r5 s6 h => ?_)
    refine R_eqs (st2 := [vI r5]) rfl rfl ?_
    refine R_istore_n (ls2 := [(3, vI r5), (0, vA G c), (1, vA G a), (2, vA G 58)]) e_X0_follow_2.2.2.2.2.2.2.1 (by decide) rfl ?_
    refine R_iload_n e_X0_follow_2.2.2.2.2.2.2.2.1 0 rfl ?_
    refine R_iconst e_X0_follow_2.2.2.2.2.2.2.2.2.1 ?_
    obtain ⟨q7, h⟩ := h
    refine R_icmp_ne 67 e_X0_follow_2.2.2.2.2.2.2.2.2.2 (by decide) q7 (by decide) (fun q => ?_) (fun q => ?_)
    · replace h := h.1 q
      refine R_aload_n e_X0_follow_3.2.2.2.2.2.2.2.1 2 rfl ?_
      refine R_iload_n e_X0_follow_3.2.2.2.2.2.2.2.2.1 0 rfl ?_
      refine R_bipush e_X0_follow_3.2.2.2.2.2.2.2.2.2 (by decide) ?_
      obtain ⟨q8, h⟩ := h
      refine R_irem e_X0_follow_4.1 q8 (by decide) ?_
      refine R_iload_n e_X0_follow_4.2.1 0 rfl ?_
      refine R_bipush e_X0_follow_4.2.2.1 (by decide) ?_
      obtain ⟨q9, h⟩ := h
      refine R_idiv e_X0_follow_4.2.2.2.1 q9 (by decide) ?_
      refine R_callV (mc := 0) (ms := 0) (mc' := 0) (ms' := 0) (M' := M_X9_stepTowards) (d' := 0) (as := [vI (r5 % 9), vI (r5 / 9)]) (st := []) 9 2 e_X0_follow_4.2.2.2.2.1 (kCVof m_X9_stepTowards l_X0_194) rfl (by decide) (kLX ha) (by decide) (by decide) rfl rfl (by show (0 : Nat) ≤ 8; decide) ?_
      refine Run.mono h (fun r10 s11 h => ?_)
      refine R_eqs (st2 := []) rfl rfl ?_
      exact R_return e_X0_follow_4.2.2.2.2.2 rfl h
    · replace h := h.2 q
      refine R_aload_n e_X0_follow_3.1 2 rfl ?_
      refine R_dup e_X0_follow_3.2.1 rfl ?_
      refine R_getI 9 5 5 e_X0_follow_3.2.2.1 f_X0_191 (kLX ha) (fun _ _ => rfl) rfl ?_
      refine R_iconst e_X0_follow_3.2.2.2.1 ?_
      refine R_iadd e_X0_follow_3.2.2.2.2.1 ?_
      refine R_putI 9 5 5 WX_ok e_X0_follow_3.2.2.2.2.2.1 f_X0_191 (kLX ha) rfl rfl rfl ?_
      refine R_goto 79 e_X0_follow_3.2.2.2.2.2.2.1 (by decide) ?_
      exact R_return e_X0_follow_4.2.2.2.2.2 rfl h
  · replace h := h.2 q
    refine R_aload_n e_X0_follow_0.2.2.2.2.2.2.2.2.2 1 rfl ?_
    refine R_dup e_X0_follow_1.1 rfl ?_
    refine R_getI 9 4 4 e_X0_follow_1.2.1 f_X0_184 (kLX ha) (fun _ _ => rfl) rfl ?_
    refine R_iconst e_X0_follow_1.2.2.1 ?_
    refine R_iadd e_X0_follow_1.2.2.2.1 ?_
    refine R_putI 9 4 4 WX_ok e_X0_follow_1.2.2.2.2.1 f_X0_184 (kLX ha) rfl rfl rfl ?_
    refine R_aload_n e_X0_follow_1.2.2.2.2.2.1 0 rfl ?_
    refine R_getA 0 10 (c + 3) e_X0_follow_1.2.2.2.2.2.2.1 f_X0_45 (kC_self hc) (fun _ _ => rfl) (kC_r10 hc) (kC_n3 hc) ?_
    refine R_aload_n e_X0_follow_1.2.2.2.2.2.2.2.1 1 rfl ?_
    refine R_getI 9 3 3 e_X0_follow_1.2.2.2.2.2.2.2.2.1 f_X0_181 (kLX ha) (fun _ _ => rfl) rfl ?_
    obtain ⟨q12, h⟩ := h
    refine R_aald 27 6 (c + 6 + ((kup s2 a 4 ((s2 a 4) + 1)) a 3)) e_X0_follow_1.2.2.2.2.2.2.2.2.2 (by decide) (kC_kites hc) q12 (kC_kiteAt hc q12) (kC_kiteN hc q12) ?_
    refine R_iconst e_X0_follow_2.1 ?_
    refine R_callV (mc := 0) (ms := 0) (mc' := 0) (ms' := 0) (M' := M_X3_earn) (d' := 1) (as := [vI 1]) (st := []) 3 1 e_X0_follow_2.2.1 (kCVof m_X3_earn l_X0_176) rfl (by decide) (kC_kite hc q12) (by decide) (by decide) rfl rfl (by show (0 : Nat) ≤ 8; decide) ?_
    refine Run.mono h (fun r13 s14 h => ?_)
    refine R_eqs (st2 := []) rfl rfl ?_
    exact R_return e_X0_follow_2.2.2.1 rfl h
