/-! KiteLand$Kite.begin(JII)V -/
theorem e_X3_begin_0 : decode cX3_begin 0 = .ok (.aload_n 0, 1) ∧ decode cX3_begin 1 = .ok (.lload_n 1, 1) ∧ decode cX3_begin 2 = .ok (.putfield 9, 3) ∧ decode cX3_begin 5 = .ok (.aload_n 0, 1) ∧ decode cX3_begin 6 = .ok (.iload_n 3, 1) ∧ decode cX3_begin 7 = .ok (.putfield 15, 3) ∧ decode cX3_begin 10 = .ok (.aload_n 0, 1) ∧ decode cX3_begin 11 = .ok (.iload 4, 2) ∧ decode cX3_begin 13 = .ok (.putfield 19, 3) ∧ decode cX3_begin 16 = .ok (.aload_n 0, 1) := by decide +kernel
theorem e_X3_begin_1 : decode cX3_begin 17 = .ok (.iconst 1, 1) ∧ decode cX3_begin 18 = .ok (.putfield 22, 3) ∧ decode cX3_begin 21 = .ok (.aload_n 0, 1) ∧ decode cX3_begin 22 = .ok (.iconst 3, 1) ∧ decode cX3_begin 23 = .ok (.putfield 25, 3) ∧ decode cX3_begin 26 = .ok (.aload_n 0, 1) ∧ decode cX3_begin 27 = .ok (.iconst 1, 1) ∧ decode cX3_begin 28 = .ok (.putfield 28, 3) ∧ decode cX3_begin 31 = .ok (.aload_n 0, 1) ∧ decode cX3_begin 32 = .ok (.iconst 0, 1) := by decide +kernel
theorem e_X3_begin_2 : decode cX3_begin 33 = .ok (.putfield 31, 3) ∧ decode cX3_begin 36 = .ok (.aload_n 0, 1) ∧ decode cX3_begin 37 = .ok (.iconst 0, 1) ∧ decode cX3_begin 38 = .ok (.putfield 34, 3) ∧ decode cX3_begin 41 = .ok (.aload_n 0, 1) ∧ decode cX3_begin 42 = .ok (.iconst 0, 1) ∧ decode cX3_begin 43 = .ok (.putfield 37, 3) ∧ decode cX3_begin 46 = .ok (.aload_n 0, 1) ∧ decode cX3_begin 47 = .ok (.iconst 0, 1) ∧ decode cX3_begin 48 = .ok (.putfield 40, 3) := by decide +kernel
theorem e_X3_begin_3 : decode cX3_begin 51 = .ok (.return_, 1) := by decide +kernel
theorem S_X3_begin {G : Kg} {σ : Kmem} {Q : Int → Kmem → Prop} {a l1 l3 l4 : Int} (ha : kIsX a 3) (h : Q 0 (kup (kup (kup (kup (kup (kup (kup (kup (kup (kup σ a 0 l1) a 1 l3) a 2 l4) a 3 1) a 4 3) a 5 1) a 6 0) a 7 0) a 8 0) a 9 0)) : Run G WX M_X3_begin 0 0 0 [vA G a, vL l1, vI l3, vI l4] σ Q := by
  refine Run.of (by decide +kernel) (by show (5 : Nat) ≤ 5; decide) ?_
  show Ex G WX M_X3_begin 0 0 0 0 [(0, vA G a), (1, vL l1), (3, vI l3), (4, vI l4)] [] σ Q
  refine R_aload_n e_X3_begin_0.1 0 rfl ?_
  refine R_lload_n e_X3_begin_0.2.1 1 rfl ?_
  refine R_putL 3 0 0 WX_ok e_X3_begin_0.2.2.1 f_X3_9 (kLX ha) rfl rfl rfl ?_
  refine R_aload_n e_X3_begin_0.2.2.2.1 0 rfl ?_
  refine R_iload_n e_X3_begin_0.2.2.2.2.1 2 rfl ?_
  refine R_putI 3 1 1 WX_ok e_X3_begin_0.2.2.2.2.2.1 f_X3_15 (kLX ha) rfl rfl rfl ?_
  refine R_aload_n e_X3_begin_0.2.2.2.2.2.2.1 0 rfl ?_
  refine R_iload e_X3_begin_0.2.2.2.2.2.2.2.1 3 rfl ?_
  refine R_putI 3 2 2 WX_ok e_X3_begin_0.2.2.2.2.2.2.2.2.1 f_X3_19 (kLX ha) rfl rfl rfl ?_
  refine R_aload_n e_X3_begin_0.2.2.2.2.2.2.2.2.2 0 rfl ?_
  refine R_iconst e_X3_begin_1.1 ?_
  refine R_putI 3 3 3 WX_ok e_X3_begin_1.2.1 f_X3_22 (kLX ha) rfl rfl rfl ?_
  refine R_aload_n e_X3_begin_1.2.2.1 0 rfl ?_
  refine R_iconst e_X3_begin_1.2.2.2.1 ?_
  refine R_putI 3 4 4 WX_ok e_X3_begin_1.2.2.2.2.1 f_X3_25 (kLX ha) rfl rfl rfl ?_
  refine R_aload_n e_X3_begin_1.2.2.2.2.2.1 0 rfl ?_
  refine R_iconst e_X3_begin_1.2.2.2.2.2.2.1 ?_
  refine R_putI 3 5 5 WX_ok e_X3_begin_1.2.2.2.2.2.2.2.1 f_X3_28 (kLX ha) rfl rfl rfl ?_
  refine R_aload_n e_X3_begin_1.2.2.2.2.2.2.2.2.1 0 rfl ?_
  refine R_iconst e_X3_begin_1.2.2.2.2.2.2.2.2.2 ?_
  refine R_putI 3 6 6 WX_ok e_X3_begin_2.1 f_X3_31 (kLX ha) rfl rfl rfl ?_
  refine R_aload_n e_X3_begin_2.2.1 0 rfl ?_
  refine R_iconst e_X3_begin_2.2.2.1 ?_
  refine R_putI 3 7 7 WX_ok e_X3_begin_2.2.2.2.1 f_X3_34 (kLX ha) rfl rfl rfl ?_
  refine R_aload_n e_X3_begin_2.2.2.2.2.1 0 rfl ?_
  refine R_iconst e_X3_begin_2.2.2.2.2.2.1 ?_
  refine R_putI 3 8 8 WX_ok e_X3_begin_2.2.2.2.2.2.2.1 f_X3_37 (kLX ha) rfl rfl rfl ?_
  refine R_aload_n e_X3_begin_2.2.2.2.2.2.2.2.1 0 rfl ?_
  refine R_iconst e_X3_begin_2.2.2.2.2.2.2.2.2.1 ?_
  refine R_putZ 3 9 9 WX_ok e_X3_begin_2.2.2.2.2.2.2.2.2.2 f_X3_40 (kLX ha) rfl rfl rfl (Or.inl rfl) ?_
  exact R_return e_X3_begin_3 rfl h
/-! KiteLand$Crop.begin(JIII)V -/
theorem e_X2_begin_0 : decode cX2_begin 0 = .ok (.aload_n 0, 1) ∧ decode cX2_begin 1 = .ok (.lload_n 1, 1) ∧ decode cX2_begin 2 = .ok (.putfield 9, 3) ∧ decode cX2_begin 5 = .ok (.aload_n 0, 1) ∧ decode cX2_begin 6 = .ok (.iload_n 3, 1) ∧ decode cX2_begin 7 = .ok (.putfield 15, 3) ∧ decode cX2_begin 10 = .ok (.aload_n 0, 1) ∧ decode cX2_begin 11 = .ok (.iload 4, 2) ∧ decode cX2_begin 13 = .ok (.putfield 19, 3) ∧ decode cX2_begin 16 = .ok (.aload_n 0, 1) := by decide +kernel
theorem e_X2_begin_1 : decode cX2_begin 17 = .ok (.iload 5, 2) ∧ decode cX2_begin 19 = .ok (.putfield 22, 3) ∧ decode cX2_begin 22 = .ok (.aload_n 0, 1) ∧ decode cX2_begin 23 = .ok (.iconst 0, 1) ∧ decode cX2_begin 24 = .ok (.putfield 25, 3) ∧ decode cX2_begin 27 = .ok (.return_, 1) := by decide +kernel
theorem S_X2_begin {G : Kg} {σ : Kmem} {Q : Int → Kmem → Prop} {a l1 l3 l4 l5 : Int} (ha : kIsX a 2) (h : Q 0 (kup (kup (kup (kup (kup σ a 0 l1) a 1 l3) a 2 l4) a 3 l5) a 4 0)) : Run G WX M_X2_begin 0 0 0 [vA G a, vL l1, vI l3, vI l4, vI l5] σ Q := by
  refine Run.of (by decide +kernel) (by show (6 : Nat) ≤ 6; decide) ?_
  show Ex G WX M_X2_begin 0 0 0 0 [(0, vA G a), (1, vL l1), (3, vI l3), (4, vI l4), (5, vI l5)] [] σ Q
  refine R_aload_n e_X2_begin_0.1 0 rfl ?_
  refine R_lload_n e_X2_begin_0.2.1 1 rfl ?_
  refine R_putL 2 0 0 WX_ok e_X2_begin_0.2.2.1 f_X2_9 (kLX ha) rfl rfl rfl ?_
  refine R_aload_n e_X2_begin_0.2.2.2.1 0 rfl ?_
  refine R_iload_n e_X2_begin_0.2.2.2.2.1 2 rfl ?_
  refine R_putI 2 1 1 WX_ok e_X2_begin_0.2.2.2.2.2.1 f_X2_15 (kLX ha) rfl rfl rfl ?_
  refine R_aload_n e_X2_begin_0.2.2.2.2.2.2.1 0 rfl ?_
  refine R_iload e_X2_begin_0.2.2.2.2.2.2.2.1 3 rfl ?_
  refine R_putI 2 2 2 WX_ok e_X2_begin_0.2.2.2.2.2.2.2.2.1 f_X2_19 (kLX ha) rfl rfl rfl ?_
  refine R_aload_n e_X2_begin_0.2.2.2.2.2.2.2.2.2 0 rfl ?_
  refine R_iload e_X2_begin_1.1 4 rfl ?_
  refine R_putI 2 3 3 WX_ok e_X2_begin_1.2.1 f_X2_22 (kLX ha) rfl rfl rfl ?_
  refine R_aload_n e_X2_begin_1.2.2.1 0 rfl ?_
  refine R_iconst e_X2_begin_1.2.2.2.1 ?_
  refine R_putI 2 4 4 WX_ok e_X2_begin_1.2.2.2.2.1 f_X2_25 (kLX ha) rfl rfl rfl ?_
  exact R_return e_X2_begin_1.2.2.2.2.2 rfl h
/-! KiteLand$Tenant.begin(JIII)V -/
theorem e_X9_begin_0 : decode cX9_begin 0 = .ok (.aload_n 0, 1) ∧ decode cX9_begin 1 = .ok (.lload_n 1, 1) ∧ decode cX9_begin 2 = .ok (.putfield 7, 3) ∧ decode cX9_begin 5 = .ok (.aload_n 0, 1) ∧ decode cX9_begin 6 = .ok (.iload_n 3, 1) ∧ decode cX9_begin 7 = .ok (.putfield 13, 3) ∧ decode cX9_begin 10 = .ok (.aload_n 0, 1) ∧ decode cX9_begin 11 = .ok (.iload 4, 2) ∧ decode cX9_begin 13 = .ok (.putfield 17, 3) ∧ decode cX9_begin 16 = .ok (.aload_n 0, 1) := by decide +kernel
theorem e_X9_begin_1 : decode cX9_begin 17 = .ok (.iload 5, 2) ∧ decode cX9_begin 19 = .ok (.putfield 20, 3) ∧ decode cX9_begin 22 = .ok (.aload_n 0, 1) ∧ decode cX9_begin 23 = .ok (.iconst 0, 1) ∧ decode cX9_begin 24 = .ok (.putfield 23, 3) ∧ decode cX9_begin 27 = .ok (.aload_n 0, 1) ∧ decode cX9_begin 28 = .ok (.iconst 0, 1) ∧ decode cX9_begin 29 = .ok (.putfield 26, 3) ∧ decode cX9_begin 32 = .ok (.return_, 1) := by decide +kernel
theorem S_X9_begin {G : Kg} {σ : Kmem} {Q : Int → Kmem → Prop} {a l1 l3 l4 l5 : Int} (ha : kIsX a 9) (h : Q 0 (kup (kup (kup (kup (kup (kup σ a 0 l1) a 1 l3) a 2 l4) a 3 l5) a 4 0) a 5 0)) : Run G WX M_X9_begin 0 0 0 [vA G a, vL l1, vI l3, vI l4, vI l5] σ Q := by
  refine Run.of (by decide +kernel) (by show (6 : Nat) ≤ 6; decide) ?_
  show Ex G WX M_X9_begin 0 0 0 0 [(0, vA G a), (1, vL l1), (3, vI l3), (4, vI l4), (5, vI l5)] [] σ Q
  refine R_aload_n e_X9_begin_0.1 0 rfl ?_
  refine R_lload_n e_X9_begin_0.2.1 1 rfl ?_
  refine R_putL 9 0 0 WX_ok e_X9_begin_0.2.2.1 f_X9_7 (kLX ha) rfl rfl rfl ?_
  refine R_aload_n e_X9_begin_0.2.2.2.1 0 rfl ?_
  refine R_iload_n e_X9_begin_0.2.2.2.2.1 2 rfl ?_
  refine R_putI 9 1 1 WX_ok e_X9_begin_0.2.2.2.2.2.1 f_X9_13 (kLX ha) rfl rfl rfl ?_
  refine R_aload_n e_X9_begin_0.2.2.2.2.2.2.1 0 rfl ?_
  refine R_iload e_X9_begin_0.2.2.2.2.2.2.2.1 3 rfl ?_
  refine R_putI 9 2 2 WX_ok e_X9_begin_0.2.2.2.2.2.2.2.2.1 f_X9_17 (kLX ha) rfl rfl rfl ?_
  refine R_aload_n e_X9_begin_0.2.2.2.2.2.2.2.2.2 0 rfl ?_
  refine R_iload e_X9_begin_1.1 4 rfl ?_
  refine R_putI 9 3 3 WX_ok e_X9_begin_1.2.1 f_X9_20 (kLX ha) rfl rfl rfl ?_
  refine R_aload_n e_X9_begin_1.2.2.1 0 rfl ?_
  refine R_iconst e_X9_begin_1.2.2.2.1 ?_
  refine R_putI 9 4 4 WX_ok e_X9_begin_1.2.2.2.2.1 f_X9_23 (kLX ha) rfl rfl rfl ?_
  refine R_aload_n e_X9_begin_1.2.2.2.2.2.1 0 rfl ?_
  refine R_iconst e_X9_begin_1.2.2.2.2.2.2.1 ?_
  refine R_putI 9 5 5 WX_ok e_X9_begin_1.2.2.2.2.2.2.2.1 f_X9_26 (kLX ha) rfl rfl rfl ?_
  exact R_return e_X9_begin_1.2.2.2.2.2.2.2.2 rfl h
