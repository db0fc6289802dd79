/-! KiteLand$Sky.drop(I)V -/
theorem e_X8_drop_0 : decode cX8_drop 0 = .ok (.aload_n 0, 1) ∧ decode cX8_drop 1 = .ok (.dup, 1) ∧ decode cX8_drop 2 = .ok (.getfield 9, 3) ∧ decode cX8_drop 5 = .ok (.iload_n 1, 1) ∧ decode cX8_drop 6 = .ok (.iconst (-1), 1) ∧ decode cX8_drop 7 = .ok (.ixor, 1) ∧ decode cX8_drop 8 = .ok (.iand, 1) ∧ decode cX8_drop 9 = .ok (.putfield 9, 3) ∧ decode cX8_drop 12 = .ok (.return_, 1) := by decide +kernel
theorem S_X8_drop {G : Kg} {σ : Kmem} {Q : Int → Kmem → Prop} {l1 : Int}  (h : Q 0 (kup σ 58 1 (kand (σ 58 1) (kxor l1 (-1))))) : Run G WX M_X8_drop 0 0 0 [vA G 58, vI l1] σ Q := by
  refine Run.of (by decide +kernel) (by show (2 : Nat) ≤ 2; decide) ?_
  show Ex G WX M_X8_drop 0 0 0 0 [(0, vA G 58), (1, vI l1)] [] σ Q
  refine R_aload_n e_X8_drop_0.1 0 rfl ?_
  refine R_dup e_X8_drop_0.2.1 rfl ?_
  refine R_getI 8 1 1 e_X8_drop_0.2.2.1 f_X8_9 kx_58 (fun _ _ => rfl) rfl ?_
  refine R_iload_n e_X8_drop_0.2.2.2.1 1 rfl ?_
  refine R_iconst e_X8_drop_0.2.2.2.2.1 ?_
  refine R_ixor e_X8_drop_0.2.2.2.2.2.1 ?_
  refine R_iand e_X8_drop_0.2.2.2.2.2.2.1 ?_
  refine R_putI 8 1 1 WX_ok e_X8_drop_0.2.2.2.2.2.2.2.1 f_X8_9 kx_58 rfl rfl rfl ?_
  exact R_return e_X8_drop_0.2.2.2.2.2.2.2.2 rfl h
/-! KiteLand$Sky.isUp(I)Z -/
theorem e_X8_isUp_0 : decode cX8_isUp 0 = .ok (.aload_n 0, 1) ∧ decode cX8_isUp 1 = .ok (.getfield 9, 3) ∧ decode cX8_isUp 4 = .ok (.iload_n 1, 1) ∧ decode cX8_isUp 5 = .ok (.ishr, 1) ∧ decode cX8_isUp 6 = .ok (.iconst 1, 1) ∧ decode cX8_isUp 7 = .ok (.iand, 1) ∧ decode cX8_isUp 8 = .ok (.iconst 1, 1) ∧ decode cX8_isUp 9 = .ok (.if_icmp .ne 7, 3) ∧ decode cX8_isUp 12 = .ok (.iconst 1, 1) ∧ decode cX8_isUp 13 = .ok (.goto 4, 3) := by decide +kernel
theorem e_X8_isUp_1 : decode cX8_isUp 16 = .ok (.iconst 0, 1) ∧ decode cX8_isUp 17 = .ok (.ireturn, 1) := by decide +kernel
theorem S_X8_isUp {G : Kg} {σ : Kmem} {Q : Int → Kmem → Prop} {l1 : Int}  (h : (rI (kand (kshr (σ 58 1) l1) 1)) ∧ ((kand (kshr (σ 58 1) l1) 1 ≠ 1 → Q 0 σ) ∧ (kand (kshr (σ 58 1) l1) 1 = 1 → Q 1 σ))) : Run G WX M_X8_isUp 0 0 0 [vA G 58, vI l1] σ Q := by
  refine Run.of (by decide +kernel) (by show (2 : Nat) ≤ 2; decide) ?_
  show Ex G WX M_X8_isUp 0 0 0 0 [(0, vA G 58), (1, vI l1)] [] σ Q
  refine R_aload_n e_X8_isUp_0.1 0 rfl ?_
  refine R_getI 8 1 1 e_X8_isUp_0.2.1 f_X8_9 kx_58 (fun _ _ => rfl) rfl ?_
  refine R_iload_n e_X8_isUp_0.2.2.1 1 rfl ?_
  refine R_ishr e_X8_isUp_0.2.2.2.1 ?_
  refine R_iconst e_X8_isUp_0.2.2.2.2.1 ?_
  refine R_iand e_X8_isUp_0.2.2.2.2.2.1 ?_
  refine R_iconst e_X8_isUp_0.2.2.2.2.2.2.1 ?_
  obtain ⟨q1, h⟩ := h
  refine R_icmp_ne 16 e_X8_isUp_0.2.2.2.2.2.2.2.1 (by decide) q1 (by decide) (fun q => ?_) (fun q => ?_)
  · replace h := h.1 q
    refine R_iconst e_X8_isUp_1.1 ?_
    exact R_zreturn e_X8_isUp_1.2 rfl (Or.inl rfl) h
  · replace h := h.2 q
    refine R_iconst e_X8_isUp_0.2.2.2.2.2.2.2.2.1 ?_
    refine R_goto 17 e_X8_isUp_0.2.2.2.2.2.2.2.2.2 (by decide) ?_
    exact R_zreturn e_X8_isUp_1.2 rfl (Or.inr rfl) h
/-! KiteLand$Sky.raise(LKiteLand$County;II)V -/
theorem e_X8_raise_0 : decode cX8_raise 0 = .ok (.aload_n 0, 1) ∧ decode cX8_raise 1 = .ok (.aload_n 1, 1) ∧ decode cX8_raise 2 = .ok (.putfield 31, 3) ∧ decode cX8_raise 5 = .ok (.aload_n 0, 1) ∧ decode cX8_raise 6 = .ok (.iconst 0, 1) ∧ decode cX8_raise 7 = .ok (.putfield 9, 3) ∧ decode cX8_raise 10 = .ok (.aload_n 1, 1) ∧ decode cX8_raise 11 = .ok (.getfield 48, 3) ∧ decode cX8_raise 14 = .ok (.iload_n 2, 1) ∧ decode cX8_raise 15 = .ok (.iaload, 1) := by decide +kernel
theorem e_X8_raise_1 : decode cX8_raise 16 = .ok (.istore 4, 2) ∧ decode cX8_raise 18 = .ok (.aload_n 1, 1) ∧ decode cX8_raise 19 = .ok (.getfield 51, 3) ∧ decode cX8_raise 22 = .ok (.iload_n 2, 1) ∧ decode cX8_raise 23 = .ok (.iaload, 1) ∧ decode cX8_raise 24 = .ok (.istore 5, 2) ∧ decode cX8_raise 26 = .ok (.iconst 0, 1) ∧ decode cX8_raise 27 = .ok (.istore 6, 2) ∧ decode cX8_raise 29 = .ok (.iload 6, 2) ∧ decode cX8_raise 31 = .ok (.aload_n 1, 1) := by decide +kernel
theorem e_X8_raise_2 : decode cX8_raise 32 = .ok (.getfield 54, 3) ∧ decode cX8_raise 35 = .ok (.if_icmp .ge 144, 3) ∧ decode cX8_raise 38 = .ok (.aload_n 1, 1) ∧ decode cX8_raise 39 = .ok (.getfield 57, 3) ∧ decode cX8_raise 42 = .ok (.iload 6, 2) ∧ decode cX8_raise 44 = .ok (.aaload, 1) ∧ decode cX8_raise 45 = .ok (.astore 7, 2) ∧ decode cX8_raise 47 = .ok (.aload 7, 2) ∧ decode cX8_raise 49 = .ok (.getfield 61, 3) ∧ decode cX8_raise 52 = .ok (.iload 4, 2) := by decide +kernel
theorem e_X8_raise_3 : decode cX8_raise 54 = .ok (.imul, 1) ∧ decode cX8_raise 55 = .ok (.iconst 3, 1) ∧ decode cX8_raise 56 = .ok (.idiv, 1) ∧ decode cX8_raise 57 = .ok (.istore 8, 2) ∧ decode cX8_raise 59 = .ok (.iload 5, 2) ∧ decode cX8_raise 61 = .ok (.aload 7, 2) ∧ decode cX8_raise 63 = .ok (.getfield 66, 3) ∧ decode cX8_raise 66 = .ok (.iadd, 1) ∧ decode cX8_raise 67 = .ok (.bipush 8, 2) ∧ decode cX8_raise 69 = .ok (.irem, 1) := by decide +kernel
theorem e_X8_raise_4 : decode cX8_raise 70 = .ok (.istore 9, 2) ∧ decode cX8_raise 72 = .ok (.aload_n 0, 1) ∧ decode cX8_raise 73 = .ok (.getfield 15, 3) ∧ decode cX8_raise 76 = .ok (.iload 6, 2) ∧ decode cX8_raise 78 = .ok (.aload 7, 2) ∧ decode cX8_raise 80 = .ok (.getfield 69, 3) ∧ decode cX8_raise 83 = .ok (.getstatic 72, 3) ∧ decode cX8_raise 86 = .ok (.iload 9, 2) ∧ decode cX8_raise 88 = .ok (.iaload, 1) ∧ decode cX8_raise 89 = .ok (.iload 8, 2) := by decide +kernel
theorem e_X8_raise_5 : decode cX8_raise 91 = .ok (.imul, 1) ∧ decode cX8_raise 92 = .ok (.iadd, 1) ∧ decode cX8_raise 93 = .ok (.iastore, 1) ∧ decode cX8_raise 94 = .ok (.aload_n 0, 1) ∧ decode cX8_raise 95 = .ok (.getfield 19, 3) ∧ decode cX8_raise 98 = .ok (.iload 6, 2) ∧ decode cX8_raise 100 = .ok (.aload 7, 2) ∧ decode cX8_raise 102 = .ok (.getfield 75, 3) ∧ decode cX8_raise 105 = .ok (.getstatic 78, 3) ∧ decode cX8_raise 108 = .ok (.iload 9, 2) := by decide +kernel
theorem e_X8_raise_6 : decode cX8_raise 110 = .ok (.iaload, 1) ∧ decode cX8_raise 111 = .ok (.iload 8, 2) ∧ decode cX8_raise 113 = .ok (.imul, 1) ∧ decode cX8_raise 114 = .ok (.iadd, 1) ∧ decode cX8_raise 115 = .ok (.iastore, 1) ∧ decode cX8_raise 116 = .ok (.aload_n 0, 1) ∧ decode cX8_raise 117 = .ok (.getfield 22, 3) ∧ decode cX8_raise 120 = .ok (.iload 6, 2) ∧ decode cX8_raise 122 = .ok (.iload_n 2, 1) ∧ decode cX8_raise 123 = .ok (.aload_n 1, 1) := by decide +kernel
theorem e_X8_raise_7 : decode cX8_raise 124 = .ok (.getfield 81, 3) ∧ decode cX8_raise 127 = .ok (.if_icmp .ne 17, 3) ∧ decode cX8_raise 130 = .ok (.iconst 0, 1) ∧ decode cX8_raise 131 = .ok (.aload 7, 2) ∧ decode cX8_raise 133 = .ok (.getfield 84, 3) ∧ decode cX8_raise 136 = .ok (.iconst 1, 1) ∧ decode cX8_raise 137 = .ok (.isub, 1) ∧ decode cX8_raise 138 = .ok (.invokestatic 87, 3) ∧ decode cX8_raise 141 = .ok (.goto 8, 3) ∧ decode cX8_raise 144 = .ok (.aload 7, 2) := by decide +kernel
theorem e_X8_raise_8 : decode cX8_raise 146 = .ok (.getfield 84, 3) ∧ decode cX8_raise 149 = .ok (.iastore, 1) ∧ decode cX8_raise 150 = .ok (.iload 4, 2) ∧ decode cX8_raise 152 = .ok (.aload 7, 2) ∧ decode cX8_raise 154 = .ok (.getfield 93, 3) ∧ decode cX8_raise 157 = .ok (.if_icmp .lt 16, 3) ∧ decode cX8_raise 160 = .ok (.aload_n 0, 1) ∧ decode cX8_raise 161 = .ok (.dup, 1) ∧ decode cX8_raise 162 = .ok (.getfield 9, 3) ∧ decode cX8_raise 165 = .ok (.iconst 1, 1) := by decide +kernel
theorem e_X8_raise_9 : decode cX8_raise 166 = .ok (.iload 6, 2) ∧ decode cX8_raise 168 = .ok (.ishl, 1) ∧ decode cX8_raise 169 = .ok (.ior, 1) ∧ decode cX8_raise 170 = .ok (.putfield 9, 3) ∧ decode cX8_raise 173 = .ok (.iinc 6 1, 3) ∧ decode cX8_raise 176 = .ok (.goto (-147), 3) ∧ decode cX8_raise 179 = .ok (.aload_n 0, 1) ∧ decode cX8_raise 180 = .ok (.iload_n 3, 1) ∧ decode cX8_raise 181 = .ok (.invokevirtual 96, 3) ∧ decode cX8_raise 184 = .ok (.return_, 1) := by decide +kernel
abbrev E_X8_raise_29 (G : Kg) (c l2 l3 l4 l5 l6 : Int) (σ : Kmem) (Q : Int → Kmem → Prop) : Prop := Ex G WX M_X8_raise 1 0 0 29 [(0, vA G 58), (1, vA G c), (2, vI l2), (3, vI l3), (4, vI l4), (5, vI l5), (6, vI l6)] [] σ Q
theorem S_X8_raise {G : Kg} {σ : Kmem} {Q : Int → Kmem → Prop} {c l2 l3 : Int} (hc : isC c) (h : (0 ≤ l2 ∧ l2 < 12) ∧ (0 ≤ l2 ∧ l2 < 12) ∧ E_X8_raise_29 G c l2 l3 ((kup (kup σ 58 0 c) 58 1 0) (c + 2) l2) ((kup (kup σ 58 0 c) 58 1 0) (c + 1) l2) 0 (kup (kup σ 58 0 c) 58 1 0) Q) : Run G WX M_X8_raise 1 0 0 [vA G 58, vA G c, vI l2, vI l3] σ Q := by
  refine Run.of (by decide +kernel) (by show (4 : Nat) ≤ 10; decide) ?_
  show Ex G WX M_X8_raise 1 0 0 0 [(0, vA G 58), (1, vA G c), (2, vI l2), (3, vI l3)] [] σ Q
  refine R_aload_n e_X8_raise_0.1 0 rfl ?_
  refine R_aload_n e_X8_raise_0.2.1 1 rfl ?_
  refine R_putA 8 0 0 e_X8_raise_0.2.2.1 f_X8_31 kx_58 (Or.inl rfl) rfl (sky_put hc) rfl ?_
  refine R_aload_n e_X8_raise_0.2.2.2.1 0 rfl ?_
  refine R_iconst e_X8_raise_0.2.2.2.2.1 ?_
  refine R_putI 8 1 1 WX_ok e_X8_raise_0.2.2.2.2.2.1 f_X8_9 kx_58 rfl rfl rfl ?_
  refine R_aload_n e_X8_raise_0.2.2.2.2.2.2.1 1 rfl ?_
  refine R_getA 0 9 (c + 2) e_X8_raise_0.2.2.2.2.2.2.2.1 f_X8_48 (kC_self hc) (fun _ _ => rfl) (kC_r9 hc) (kC_n2 hc) ?_
  refine R_iload_n e_X8_raise_0.2.2.2.2.2.2.2.2.1 2 rfl ?_
  obtain ⟨q1, h⟩ := h
  refine R_iald 12 e_X8_raise_0.2.2.2.2.2.2.2.2.2 (kC_forces hc) q1 ?_
  refine R_istore (ls2 := [(4, vI ((kup (kup σ 58 0 c) 58 1 0) (c + 2) l2)), (0, vA G 58), (1, vA G c), (2, vI l2), (3, vI l3)]) e_X8_raise_1.1 (by decide) rfl ?_
  refine R_aload_n e_X8_raise_1.2.1 2 rfl ?_
  refine R_getA 0 8 (c + 1) e_X8_raise_1.2.2.1 f_X8_51 (kC_self hc) (fun _ _ => rfl) (kC_r8 hc) (kC_n1 hc) ?_
  refine R_iload_n e_X8_raise_1.2.2.2.1 3 rfl ?_
  obtain ⟨q2, h⟩ := h
  refine R_iald 12 e_X8_raise_1.2.2.2.2.1 (kC_dirs hc) q2 ?_
  refine R_istore (ls2 := [(5, vI ((kup (kup σ 58 0 c) 58 1 0) (c + 1) l2)), (4, vI ((kup (kup σ 58 0 c) 58 1 0) (c + 2) l2)), (0, vA G 58), (1, vA G c), (2, vI l2), (3, vI l3)]) e_X8_raise_1.2.2.2.2.2.1 (by decide) rfl ?_
  refine R_iconst e_X8_raise_1.2.2.2.2.2.2.1 ?_
  refine R_istore (ls2 := [(6, vI 0), (5, vI ((kup (kup σ 58 0 c) 58 1 0) (c + 1) l2)), (4, vI ((kup (kup σ 58 0 c) 58 1 0) (c + 2) l2)), (0, vA G 58), (1, vA G c), (2, vI l2), (3, vI l3)]) e_X8_raise_1.2.2.2.2.2.2.2.1 (by decide) rfl ?_
  refine R_ls (ls2 := [(0, vA G 58), (1, vA G c), (2, vI l2), (3, vI l3), (4, vI ((kup (kup σ 58 0 c) 58 1 0) (c + 2) l2)), (5, vI ((kup (kup σ 58 0 c) 58 1 0) (c + 1) l2)), (6, vI 0)]) [3, 4, 5, 6, 2, 1, 0] rfl ?_
  exact h
theorem S_X8_raise_29 {G : Kg} {σ : Kmem} {Q : Int → Kmem → Prop} {c l2 l3 l4 l5 l6 : Int} (hc : isC c) (h : (rI l6) ∧ (rI (σ c 5)) ∧ ((σ c 5 ≤ l6 → Q 0 (kup σ 58 1 (kand (σ 58 1) (kxor l3 (-1))))) ∧ (l6 < σ c 5 → (0 ≤ l6 ∧ l6 < 6) ∧ (0 ≤ (σ (c + 6 + l6) 4) * l4 ∧ (σ (c + 6 + l6) 4) * l4 ≤ 2147483647) ∧ (0 ≤ l5 + (σ (c + 6 + l6) 6) ∧ l5 + (σ (c + 6 + l6) 6) ≤ 2147483647) ∧ (0 ≤ (l5 + (σ (c + 6 + l6) 6)) % 8 ∧ (l5 + (σ (c + 6 + l6) 6)) % 8 < 8) ∧ (0 ≤ l6 ∧ l6 < 6) ∧ (0 ≤ (l5 + (σ (c + 6 + l6) 6)) % 8 ∧ (l5 + (σ (c + 6 + l6) 6)) % 8 < 8) ∧ (0 ≤ l6 ∧ l6 < 6) ∧ (rI l2) ∧ (rI ((kup (kup σ 59 l6 ((σ (c + 6 + l6) 1) + ((kst2 ((l5 + (σ (c + 6 + l6) 6)) % 8)) * (((σ (c + 6 + l6) 4) * l4) / 3)))) 60 l6 (((kup σ 59 l6 ((σ (c + 6 + l6) 1) + ((kst2 ((l5 + (σ (c + 6 + l6) 6)) % 8)) * (((σ (c + 6 + l6) 4) * l4) / 3)))) (c + 6 + l6) 2) + ((kst3 ((l5 + (σ (c + 6 + l6) 6)) % 8)) * (((σ (c + 6 + l6) 4) * l4) / 3)))) c 2)) ∧ ((l2 ≠ (kup (kup σ 59 l6 ((σ (c + 6 + l6) 1) + ((kst2 ((l5 + (σ (c + 6 + l6) 6)) % 8)) * (((σ (c + 6 + l6) 4) * l4) / 3)))) 60 l6 (((kup σ 59 l6 ((σ (c + 6 + l6) 1) + ((kst2 ((l5 + (σ (c + 6 + l6) 6)) % 8)) * (((σ (c + 6 + l6) 4) * l4) / 3)))) (c + 6 + l6) 2) + ((kst3 ((l5 + (σ (c + 6 + l6) 6)) % 8)) * (((σ (c + 6 + l6) 4) * l4) / 3)))) c 2 → (0 ≤ l6 ∧ l6 < 6) ∧ (rI l4) ∧ (rI ((kup (kup (kup σ 59 l6 ((σ (c + 6 + l6) 1) + ((kst2 ((l5 + (σ (c + 6 + l6) 6)) % 8)) * (((σ (c + 6 + l6) 4) * l4) / 3)))) 60 l6 (((kup σ 59 l6 ((σ (c + 6 + l6) 1) + ((kst2 ((l5 + (σ (c + 6 + l6) 6)) % 8)) * (((σ (c + 6 + l6) 4) * l4) / 3)))) (c + 6 + l6) 2) + ((kst3 ((l5 + (σ (c + 6 + l6) 6)) % 8)) * (((σ (c + 6 + l6) 4) * l4) / 3)))) 61 l6 ((kup (kup σ 59 l6 ((σ (c + 6 + l6) 1) + ((kst2 ((l5 + (σ (c + 6 + l6) 6)) % 8)) * (((σ (c + 6 + l6) 4) * l4) / 3)))) 60 l6 (((kup σ 59 l6 ((σ (c + 6 + l6) 1) + ((kst2 ((l5 + (σ (c + 6 + l6) 6)) % 8)) * (((σ (c + 6 + l6) 4) * l4) / 3)))) (c + 6 + l6) 2) + ((kst3 ((l5 + (σ (c + 6 + l6) 6)) % 8)) * (((σ (c + 6 + l6) 4) * l4) / 3)))) (c + 6 + l6) 3)) (c + 6 + l6) 5)) ∧ ((l4 < (kup (kup (kup σ 59 l6 ((σ (c + 6 + l6) 1) + ((kst2 ((l5 + (σ (c + 6 + l6) 6)) % 8)) * (((σ (c + 6 + l6) 4) * l4) / 3)))) 60 l6 (((kup σ 59 l6 ((σ (c + 6 + l6) 1) + ((kst2 ((l5 + (σ (c + 6 + l6) 6)) % 8)) * (((σ (c + 6 + l6) 4) * l4) / 3)))) (c + 6 + l6) 2) + ((kst3 ((l5 + (σ (c + 6 + l6) 6)) % 8)) * (((σ (c + 6 + l6) 4) * l4) / 3)))) 61 l6 ((kup (kup σ 59 l6 ((σ (c + 6 + l6) 1) + ((kst2 ((l5 + (σ (c + 6 + l6) 6)) % 8)) * (((σ (c + 6 + l6) 4) * l4) / 3)))) 60 l6 (((kup σ 59 l6 ((σ (c + 6 + l6) 1) + ((kst2 ((l5 + (σ (c + 6 + l6) 6)) % 8)) * (((σ (c + 6 + l6) 4) * l4) / 3)))) (c + 6 + l6) 2) + ((kst3 ((l5 + (σ (c + 6 + l6) 6)) % 8)) * (((σ (c + 6 + l6) 4) * l4) / 3)))) (c + 6 + l6) 3)) (c + 6 + l6) 5 → E_X8_raise_29 G c l2 l3 l4 l5 (l6 + 1) (kup (kup (kup σ 59 l6 ((σ (c + 6 + l6) 1) + ((kst2 ((l5 + (σ (c + 6 + l6) 6)) % 8)) * (((σ (c + 6 + l6) 4) * l4) / 3)))) 60 l6 (((kup σ 59 l6 ((σ (c + 6 + l6) 1) + ((kst2 ((l5 + (σ (c + 6 + l6) 6)) % 8)) * (((σ (c + 6 + l6) 4) * l4) / 3)))) (c + 6 + l6) 2) + ((kst3 ((l5 + (σ (c + 6 + l6) 6)) % 8)) * (((σ (c + 6 + l6) 4) * l4) / 3)))) 61 l6 ((kup (kup σ 59 l6 ((σ (c + 6 + l6) 1) + ((kst2 ((l5 + (σ (c + 6 + l6) 6)) % 8)) * (((σ (c + 6 + l6) 4) * l4) / 3)))) 60 l6 (((kup σ 59 l6 ((σ (c + 6 + l6) 1) + ((kst2 ((l5 + (σ (c + 6 + l6) 6)) % 8)) * (((σ (c + 6 + l6) 4) * l4) / 3)))) (c + 6 + l6) 2) + ((kst3 ((l5 + (σ (c + 6 + l6) 6)) % 8)) * (((σ (c + 6 + l6) 4) * l4) / 3)))) (c + 6 + l6) 3)) Q) ∧ ((kup (kup (kup σ 59 l6 ((σ (c + 6 + l6) 1) + ((kst2 ((l5 + (σ (c + 6 + l6) 6)) % 8)) * (((σ (c + 6 + l6) 4) * l4) / 3)))) 60 l6 (((kup σ 59 l6 ((σ (c + 6 + l6) 1) + ((kst2 ((l5 + (σ (c + 6 + l6) 6)) % 8)) * (((σ (c + 6 + l6) 4) * l4) / 3)))) (c + 6 + l6) 2) + ((kst3 ((l5 + (σ (c + 6 + l6) 6)) % 8)) * (((σ (c + 6 + l6) 4) * l4) / 3)))) 61 l6 ((kup (kup σ 59 l6 ((σ (c + 6 + l6) 1) + ((kst2 ((l5 + (σ (c + 6 + l6) 6)) % 8)) * (((σ (c + 6 + l6) 4) * l4) / 3)))) 60 l6 (((kup σ 59 l6 ((σ (c + 6 + l6) 1) + ((kst2 ((l5 + (σ (c + 6 + l6) 6)) % 8)) * (((σ (c + 6 + l6) 4) * l4) / 3)))) (c + 6 + l6) 2) + ((kst3 ((l5 + (σ (c + 6 + l6) 6)) % 8)) * (((σ (c + 6 + l6) 4) * l4) / 3)))) (c + 6 + l6) 3)) (c + 6 + l6) 5 ≤ l4 → E_X8_raise_29 G c l2 l3 l4 l5 (l6 + 1) (kup (kup (kup (kup σ 59 l6 ((σ (c + 6 + l6) 1) + ((kst2 ((l5 + (σ (c + 6 + l6) 6)) % 8)) * (((σ (c + 6 + l6) 4) * l4) / 3)))) 60 l6 (((kup σ 59 l6 ((σ (c + 6 + l6) 1) + ((kst2 ((l5 + (σ (c + 6 + l6) 6)) % 8)) * (((σ (c + 6 + l6) 4) * l4) / 3)))) (c + 6 + l6) 2) + ((kst3 ((l5 + (σ (c + 6 + l6) 6)) % 8)) * (((σ (c + 6 + l6) 4) * l4) / 3)))) 61 l6 ((kup (kup σ 59 l6 ((σ (c + 6 + l6) 1) + ((kst2 ((l5 + (σ (c + 6 + l6) 6)) % 8)) * (((σ (c + 6 + l6) 4) * l4) / 3)))) 60 l6 (((kup σ 59 l6 ((σ (c + 6 + l6) 1) + ((kst2 ((l5 + (σ (c + 6 + l6) 6)) % 8)) * (((σ (c + 6 + l6) 4) * l4) / 3)))) (c + 6 + l6) 2) + ((kst3 ((l5 + (σ (c + 6 + l6) 6)) % 8)) * (((σ (c + 6 + l6) 4) * l4) / 3)))) (c + 6 + l6) 3)) 58 1 (kor ((kup (kup (kup σ 59 l6 ((σ (c + 6 + l6) 1) + ((kst2 ((l5 + (σ (c + 6 + l6) 6)) % 8)) * (((σ (c + 6 + l6) 4) * l4) / 3)))) 60 l6 (((kup σ 59 l6 ((σ (c + 6 + l6) 1) + ((kst2 ((l5 + (σ (c + 6 + l6) 6)) % 8)) * (((σ (c + 6 + l6) 4) * l4) / 3)))) (c + 6 + l6) 2) + ((kst3 ((l5 + (σ (c + 6 + l6) 6)) % 8)) * (((σ (c + 6 + l6) 4) * l4) / 3)))) 61 l6 ((kup (kup σ 59 l6 ((σ (c + 6 + l6) 1) + ((kst2 ((l5 + (σ (c + 6 + l6) 6)) % 8)) * (((σ (c + 6 + l6) 4) * l4) / 3)))) 60 l6 (((kup σ 59 l6 ((σ (c + 6 + l6) 1) + ((kst2 ((l5 + (σ (c + 6 + l6) 6)) % 8)) * (((σ (c + 6 + l6) 4) * l4) / 3)))) (c + 6 + l6) 2) + ((kst3 ((l5 + (σ (c + 6 + l6) 6)) % 8)) * (((σ (c + 6 + l6) 4) * l4) / 3)))) (c + 6 + l6) 3)) 58 1) (kshl 1 l6))) Q))) ∧ (l2 = (kup (kup σ 59 l6 ((σ (c + 6 + l6) 1) + ((kst2 ((l5 + (σ (c + 6 + l6) 6)) % 8)) * (((σ (c + 6 + l6) 4) * l4) / 3)))) 60 l6 (((kup σ 59 l6 ((σ (c + 6 + l6) 1) + ((kst2 ((l5 + (σ (c + 6 + l6) 6)) % 8)) * (((σ (c + 6 + l6) 4) * l4) / 3)))) (c + 6 + l6) 2) + ((kst3 ((l5 + (σ (c + 6 + l6) 6)) % 8)) * (((σ (c + 6 + l6) 4) * l4) / 3)))) c 2 → (rI (0) ∧ rI ((((kup (kup σ 59 l6 ((σ (c + 6 + l6) 1) + ((kst2 ((l5 + (σ (c + 6 + l6) 6)) % 8)) * (((σ (c + 6 + l6) 4) * l4) / 3)))) 60 l6 (((kup σ 59 l6 ((σ (c + 6 + l6) 1) + ((kst2 ((l5 + (σ (c + 6 + l6) 6)) % 8)) * (((σ (c + 6 + l6) 4) * l4) / 3)))) (c + 6 + l6) 2) + ((kst3 ((l5 + (σ (c + 6 + l6) 6)) % 8)) * (((σ (c + 6 + l6) 4) * l4) / 3)))) (c + 6 + l6) 3) - 1))) ∧ (0 ≤ l6 ∧ l6 < 6) ∧ (rI l4) ∧ (rI ((kup (kup (kup σ 59 l6 ((σ (c + 6 + l6) 1) + ((kst2 ((l5 + (σ (c + 6 + l6) 6)) % 8)) * (((σ (c + 6 + l6) 4) * l4) / 3)))) 60 l6 (((kup σ 59 l6 ((σ (c + 6 + l6) 1) + ((kst2 ((l5 + (σ (c + 6 + l6) 6)) % 8)) * (((σ (c + 6 + l6) 4) * l4) / 3)))) (c + 6 + l6) 2) + ((kst3 ((l5 + (σ (c + 6 + l6) 6)) % 8)) * (((σ (c + 6 + l6) 4) * l4) / 3)))) 61 l6 (max (0) ((((kup (kup σ 59 l6 ((σ (c + 6 + l6) 1) + ((kst2 ((l5 + (σ (c + 6 + l6) 6)) % 8)) * (((σ (c + 6 + l6) 4) * l4) / 3)))) 60 l6 (((kup σ 59 l6 ((σ (c + 6 + l6) 1) + ((kst2 ((l5 + (σ (c + 6 + l6) 6)) % 8)) * (((σ (c + 6 + l6) 4) * l4) / 3)))) (c + 6 + l6) 2) + ((kst3 ((l5 + (σ (c + 6 + l6) 6)) % 8)) * (((σ (c + 6 + l6) 4) * l4) / 3)))) (c + 6 + l6) 3) - 1)))) (c + 6 + l6) 5)) ∧ ((l4 < (kup (kup (kup σ 59 l6 ((σ (c + 6 + l6) 1) + ((kst2 ((l5 + (σ (c + 6 + l6) 6)) % 8)) * (((σ (c + 6 + l6) 4) * l4) / 3)))) 60 l6 (((kup σ 59 l6 ((σ (c + 6 + l6) 1) + ((kst2 ((l5 + (σ (c + 6 + l6) 6)) % 8)) * (((σ (c + 6 + l6) 4) * l4) / 3)))) (c + 6 + l6) 2) + ((kst3 ((l5 + (σ (c + 6 + l6) 6)) % 8)) * (((σ (c + 6 + l6) 4) * l4) / 3)))) 61 l6 (max (0) ((((kup (kup σ 59 l6 ((σ (c + 6 + l6) 1) + ((kst2 ((l5 + (σ (c + 6 + l6) 6)) % 8)) * (((σ (c + 6 + l6) 4) * l4) / 3)))) 60 l6 (((kup σ 59 l6 ((σ (c + 6 + l6) 1) + ((kst2 ((l5 + (σ (c + 6 + l6) 6)) % 8)) * (((σ (c + 6 + l6) 4) * l4) / 3)))) (c + 6 + l6) 2) + ((kst3 ((l5 + (σ (c + 6 + l6) 6)) % 8)) * (((σ (c + 6 + l6) 4) * l4) / 3)))) (c + 6 + l6) 3) - 1)))) (c + 6 + l6) 5 → E_X8_raise_29 G c l2 l3 l4 l5 (l6 + 1) (kup (kup (kup σ 59 l6 ((σ (c + 6 + l6) 1) + ((kst2 ((l5 + (σ (c + 6 + l6) 6)) % 8)) * (((σ (c + 6 + l6) 4) * l4) / 3)))) 60 l6 (((kup σ 59 l6 ((σ (c + 6 + l6) 1) + ((kst2 ((l5 + (σ (c + 6 + l6) 6)) % 8)) * (((σ (c + 6 + l6) 4) * l4) / 3)))) (c + 6 + l6) 2) + ((kst3 ((l5 + (σ (c + 6 + l6) 6)) % 8)) * (((σ (c + 6 + l6) 4) * l4) / 3)))) 61 l6 (max (0) ((((kup (kup σ 59 l6 ((σ (c + 6 + l6) 1) + ((kst2 ((l5 + (σ (c + 6 + l6) 6)) % 8)) * (((σ (c + 6 + l6) 4) * l4) / 3)))) 60 l6 (((kup σ 59 l6 ((σ (c + 6 + l6) 1) + ((kst2 ((l5 + (σ (c + 6 + l6) 6)) % 8)) * (((σ (c + 6 + l6) 4) * l4) / 3)))) (c + 6 + l6) 2) + ((kst3 ((l5 + (σ (c + 6 + l6) 6)) % 8)) * (((σ (c + 6 + l6) 4) * l4) / 3)))) (c + 6 + l6) 3) - 1)))) Q) ∧ ((kup (kup (kup σ 59 l6 ((σ (c + 6 + l6) 1) + ((kst2 ((l5 + (σ (c + 6 + l6) 6)) % 8)) * (((σ (c + 6 + l6) 4) * l4) / 3)))) 60 l6 (((kup σ 59 l6 ((σ (c + 6 + l6) 1) + ((kst2 ((l5 + (σ (c + 6 + l6) 6)) % 8)) * (((σ (c + 6 + l6) 4) * l4) / 3)))) (c + 6 + l6) 2) + ((kst3 ((l5 + (σ (c + 6 + l6) 6)) % 8)) * (((σ (c + 6 + l6) 4) * l4) / 3)))) 61 l6 (max (0) ((((kup (kup σ 59 l6 ((σ (c + 6 + l6) 1) + ((kst2 ((l5 + (σ (c + 6 + l6) 6)) % 8)) * (((σ (c + 6 + l6) 4) * l4) / 3)))) 60 l6 (((kup σ 59 l6 ((σ (c + 6 + l6) 1) + ((kst2 ((l5 + (σ (c + 6 + l6) 6)) % 8)) * (((σ (c + 6 + l6) 4) * l4) / 3)))) (c + 6 + l6) 2) + ((kst3 ((l5 + (σ (c + 6 + l6) 6)) % 8)) * (((σ (c + 6 + l6) 4) * l4) / 3)))) (c + 6 + l6) 3) - 1)))) (c + 6 + l6) 5 ≤ l4 → E_X8_raise_29 G c l2 l3 l4 l5 (l6 + 1) (kup (kup (kup (kup σ 59 l6 ((σ (c + 6 + l6) 1) + ((kst2 ((l5 + (σ (c + 6 + l6) 6)) % 8)) * (((σ (c + 6 + l6) 4) * l4) / 3)))) 60 l6 (((kup σ 59 l6 ((σ (c + 6 + l6) 1) + ((kst2 ((l5 + (σ (c + 6 + l6) 6)) % 8)) * (((σ (c + 6 + l6) 4) * l4) / 3)))) (c + 6 + l6) 2) + ((kst3 ((l5 + (σ (c + 6 + l6) 6)) % 8)) * (((σ (c + 6 + l6) 4) * l4) / 3)))) 61 l6 (max (0) ((((kup (kup σ 59 l6 ((σ (c + 6 + l6) 1) + ((kst2 ((l5 + (σ (c + 6 + l6) 6)) % 8)) * (((σ (c + 6 + l6) 4) * l4) / 3)))) 60 l6 (((kup σ 59 l6 ((σ (c + 6 + l6) 1) + ((kst2 ((l5 + (σ (c + 6 + l6) 6)) % 8)) * (((σ (c + 6 + l6) 4) * l4) / 3)))) (c + 6 + l6) 2) + ((kst3 ((l5 + (σ (c + 6 + l6) 6)) % 8)) * (((σ (c + 6 + l6) 4) * l4) / 3)))) (c + 6 + l6) 3) - 1)))) 58 1 (kor ((kup (kup (kup σ 59 l6 ((σ (c + 6 + l6) 1) + ((kst2 ((l5 + (σ (c + 6 + l6) 6)) % 8)) * (((σ (c + 6 + l6) 4) * l4) / 3)))) 60 l6 (((kup σ 59 l6 ((σ (c + 6 + l6) 1) + ((kst2 ((l5 + (σ (c + 6 + l6) 6)) % 8)) * (((σ (c + 6 + l6) 4) * l4) / 3)))) (c + 6 + l6) 2) + ((kst3 ((l5 + (σ (c + 6 + l6) 6)) % 8)) * (((σ (c + 6 + l6) 4) * l4) / 3)))) 61 l6 (max (0) ((((kup (kup σ 59 l6 ((σ (c + 6 + l6) 1) + ((kst2 ((l5 + (σ (c + 6 + l6) 6)) % 8)) * (((σ (c + 6 + l6) 4) * l4) / 3)))) 60 l6 (((kup σ 59 l6 ((σ (c + 6 + l6) 1) + ((kst2 ((l5 + (σ (c + 6 + l6) 6)) % 8)) * (((σ (c + 6 + l6) 4) * l4) / 3)))) (c + 6 + l6) 2) + ((kst3 ((l5 + (σ (c + 6 + l6) 6)) % 8)) * (((σ (c + 6 + l6) 4) * l4) / 3)))) (c + 6 + l6) 3) - 1)))) 58 1) (kshl 1 l6))) Q))))))) : E_X8_raise_29 G c l2 l3 l4 l5 l6 σ Q := by
  refine R_iload e_X8_raise_1.2.2.2.2.2.2.2.2.1 6 rfl ?_
  refine R_aload_n e_X8_raise_1.2.2.2.2.2.2.2.2.2 1 rfl ?_
  refine R_getI 0 5 5 e_X8_raise_2.1 f_X8_54 (kC_self hc) (fun _ _ => rfl) rfl ?_
  obtain ⟨q3, h⟩ := h
  obtain ⟨q4, h⟩ := h
  refine R_icmp_ge 179 e_X8_raise_2.2.1 (by decide) q3 q4 (fun q => ?_) (fun q => ?_)
  · replace h := h.1 q
    refine R_aload_n e_X8_raise_9.2.2.2.2.2.2.1 0 rfl ?_
    refine R_iload_n e_X8_raise_9.2.2.2.2.2.2.2.1 3 rfl ?_
    refine R_callV (mc := 0) (ms := 0) (mc' := 0) (ms' := 0) (M' := M_X8_drop) (d' := 0) (as := [vI l3]) (st := []) 8 1 e_X8_raise_9.2.2.2.2.2.2.2.2.1 (kCVof m_X8_drop l_X8_96) rfl (by decide) kx_58 (by decide) (by decide) rfl rfl (by show (0 : Nat) ≤ 8; decide) ?_
    refine S_X8_drop ?_
    refine R_eqs (st2 := []) (σ2 := (kup σ 58 1 (kand (σ 58 1) (kxor l3 (-1))))) rfl rfl ?_
    exact R_return e_X8_raise_9.2.2.2.2.2.2.2.2.2 rfl h
  · replace h := h.2 q
    refine R_aload_n e_X8_raise_2.2.2.1 1 rfl ?_
    refine R_getA 0 10 (c + 3) e_X8_raise_2.2.2.2.1 f_X8_57 (kC_self hc) (fun _ _ => rfl) (kC_r10 hc) (kC_n3 hc) ?_
    refine R_iload e_X8_raise_2.2.2.2.2.1 6 rfl ?_
    obtain ⟨q7, h⟩ := h
    refine R_aald 27 6 (c + 6 + l6) e_X8_raise_2.2.2.2.2.2.1 (by decide) (kC_kites hc) q7 (kC_kiteAt hc q7) (kC_kiteN hc q7) ?_
    refine R_astore (ls2 := [(7, vA G (c + 6 + l6)), (0, vA G 58), (1, vA G c), (2, vI l2), (3, vI l3), (4, vI l4), (5, vI l5), (6, vI l6)]) e_X8_raise_2.2.2.2.2.2.2.1 (by decide) rfl ?_
    refine R_aload e_X8_raise_2.2.2.2.2.2.2.2.1 0 rfl ?_
    refine R_getI 3 4 4 e_X8_raise_2.2.2.2.2.2.2.2.2.1 f_X8_61 (kC_kite hc q7) (fun _ _ => rfl) rfl ?_
    refine R_iload e_X8_raise_2.2.2.2.2.2.2.2.2.2 5 rfl ?_
    refine R_imul e_X8_raise_3.1 ?_
    refine R_iconst e_X8_raise_3.2.1 ?_
    obtain ⟨q8, h⟩ := h
    refine R_idiv e_X8_raise_3.2.2.1 q8 (by decide) ?_
    refine R_istore (ls2 := [(8, vI (((σ (c + 6 + l6) 4) * l4) / 3)), (7, vA G (c + 6 + l6)), (0, vA G 58), (1, vA G c), (2, vI l2), (3, vI l3), (4, vI l4), (5, vI l5), (6, vI l6)]) e_X8_raise_3.2.2.2.1 (by decide) rfl ?_
    refine R_iload e_X8_raise_3.2.2.2.2.1 7 rfl ?_
    refine R_aload e_X8_raise_3.2.2.2.2.2.1 1 rfl ?_
    refine R_getI 3 6 6 e_X8_raise_3.2.2.2.2.2.2.1 f_X8_66 (kC_kite hc q7) (fun _ _ => rfl) rfl ?_
    refine R_iadd e_X8_raise_3.2.2.2.2.2.2.2.1 ?_
    refine R_bipush e_X8_raise_3.2.2.2.2.2.2.2.2.1 (by decide) ?_
    obtain ⟨q9, h⟩ := h
    refine R_irem e_X8_raise_3.2.2.2.2.2.2.2.2.2 q9 (by decide) ?_
    refine R_istore (ls2 := [(9, vI ((l5 + (σ (c + 6 + l6) 6)) % 8)), (8, vI (((σ (c + 6 + l6) 4) * l4) / 3)), (7, vA G (c + 6 + l6)), (0, vA G 58), (1, vA G c), (2, vI l2), (3, vI l3), (4, vI l4), (5, vI l5), (6, vI l6)]) e_X8_raise_4.1 (by decide) rfl ?_
    refine R_aload_n e_X8_raise_4.2.1 3 rfl ?_
    refine R_getA 8 2 59 e_X8_raise_4.2.2.1 f_X8_15 kx_58 (fun _ _ => rfl) rx_58_2 (by decide) ?_
    refine R_iload e_X8_raise_4.2.2.2.1 9 rfl ?_
    refine R_aload e_X8_raise_4.2.2.2.2.1 2 rfl ?_
    refine R_getI 3 1 1 e_X8_raise_4.2.2.2.2.2.1 f_X8_69 (kC_kite hc q7) (fun _ _ => rfl) rfl ?_
    refine R_getsN (i := 2) (-3) e_X8_raise_4.2.2.2.2.2.2.1 rfl kn_X8_72 rfl ?_
    refine R_iload e_X8_raise_4.2.2.2.2.2.2.2.1 0 rfl ?_
    obtain ⟨q10, h⟩ := h
    refine R_ialdS (i := 2) (-3) (kst2 ((l5 + (σ (c + 6 + l6) 6)) % 8)) e_X8_raise_4.2.2.2.2.2.2.2.2.1 rfl rfl q10 (by decide) (kst2_v q10) ?_
    refine R_iload e_X8_raise_4.2.2.2.2.2.2.2.2.2 1 rfl ?_
    refine R_imul e_X8_raise_5.1 ?_
    refine R_iadd e_X8_raise_5.2.1 ?_
    obtain ⟨q11, h⟩ := h
    refine R_iast 6 WX_ok e_X8_raise_5.2.2.1 kxa_59 q11 ?_
    refine R_aload_n e_X8_raise_5.2.2.2.1 3 rfl ?_
    refine R_getA 8 3 60 e_X8_raise_5.2.2.2.2.1 f_X8_19 kx_58 (fun _ _ => rfl) rx_58_3 (by decide) ?_
    refine R_iload e_X8_raise_5.2.2.2.2.2.1 9 rfl ?_
    refine R_aload e_X8_raise_5.2.2.2.2.2.2.1 2 rfl ?_
    refine R_getI 3 2 2 e_X8_raise_5.2.2.2.2.2.2.2.1 f_X8_75 (kC_kite hc q7) (fun _ _ => rfl) rfl ?_
    refine R_getsN (i := 3) (-4) e_X8_raise_5.2.2.2.2.2.2.2.2.1 rfl kn_X8_78 rfl ?_
    refine R_iload e_X8_raise_5.2.2.2.2.2.2.2.2.2 0 rfl ?_
    obtain ⟨q12, h⟩ := h
    refine R_ialdS (i := 3) (-4) (kst3 ((l5 + (σ (c + 6 + l6) 6)) % 8)) e_X8_raise_6.1 rfl rfl q12 (by decide) (kst3_v q12) ?_
    refine R_iload e_X8_raise_6.2.1 1 rfl ?_
    refine R_imul e_X8_raise_6.2.2.1 ?_
    refine R_iadd e_X8_raise_6.2.2.2.1 ?_
    obtain ⟨q13, h⟩ := h
    refine R_iast 6 WX_ok e_X8_raise_6.2.2.2.2.1 kxa_60 q13 ?_
    refine R_aload_n e_X8_raise_6.2.2.2.2.2.1 3 rfl ?_
    refine R_getA 8 4 61 e_X8_raise_6.2.2.2.2.2.2.1 f_X8_22 kx_58 (fun _ _ => rfl) rx_58_4 (by decide) ?_
    refine R_iload e_X8_raise_6.2.2.2.2.2.2.2.1 9 rfl ?_
    refine R_iload_n e_X8_raise_6.2.2.2.2.2.2.2.2.1 5 rfl ?_
    refine R_aload_n e_X8_raise_6.2.2.2.2.2.2.2.2.2 4 rfl ?_
    refine R_getI 0 2 2 e_X8_raise_7.1 f_X8_81 (kC_self hc) (fun _ _ => rfl) rfl ?_
    obtain ⟨q14, h⟩ := h
    obtain ⟨q15, h⟩ := h
    refine R_icmp_ne 144 e_X8_raise_7.2.1 (by decide) q14 q15 (fun q => ?_) (fun q => ?_)
    · replace h := h.1 q
      refine R_aload e_X8_raise_7.2.2.2.2.2.2.2.2.2 2 rfl ?_
      refine R_getI 3 3 3 e_X8_raise_8.1 f_X8_84 (kC_kite hc q7) (fun _ _ => rfl) rfl ?_
      obtain ⟨q16, h⟩ := h
      refine R_iast 6 WX_ok e_X8_raise_8.2.1 kxa_61 q16 ?_
      refine R_iload e_X8_raise_8.2.2.1 7 rfl ?_
      refine R_aload e_X8_raise_8.2.2.2.1 2 rfl ?_
      refine R_getI 3 5 5 e_X8_raise_8.2.2.2.2.1 f_X8_93 (kC_kite hc q7) (fun _ _ => rfl) rfl ?_
      obtain ⟨q17, h⟩ := h
      obtain ⟨q18, h⟩ := h
      refine R_icmp_lt 173 e_X8_raise_8.2.2.2.2.2.1 (by decide) q17 q18 (fun q => ?_) (fun q => ?_)
      · replace h := h.1 q
        refine R_iinc (ls2 := [(6, vI (l6 + 1)), (9, vI ((l5 + (σ (c + 6 + l6) 6)) % 8)), (8, vI (((σ (c + 6 + l6) 4) * l4) / 3)), (7, vA G (c + 6 + l6)), (0, vA G 58), (1, vA G c), (2, vI l2), (3, vI l3), (4, vI l4), (5, vI l5)]) e_X8_raise_9.2.2.2.2.1 9 rfl (by decide) rfl ?_
        refine R_goto 29 e_X8_raise_9.2.2.2.2.2.1 (by decide) ?_
        refine R_ls (ls2 := [(0, vA G 58), (1, vA G c), (2, vI l2), (3, vI l3), (4, vI l4), (5, vI l5), (6, vI (l6 + 1))]) [4, 5, 6, 7, 8, 9, 0] rfl ?_
        exact h
      · replace h := h.2 q
        refine R_aload_n e_X8_raise_8.2.2.2.2.2.2.1 3 rfl ?_
        refine R_dup e_X8_raise_8.2.2.2.2.2.2.2.1 rfl ?_
        refine R_getI 8 1 1 e_X8_raise_8.2.2.2.2.2.2.2.2.1 f_X8_9 kx_58 (fun _ _ => rfl) rfl ?_
        refine R_iconst e_X8_raise_8.2.2.2.2.2.2.2.2.2 ?_
        refine R_iload e_X8_raise_9.1 9 rfl ?_
        refine R_ishl e_X8_raise_9.2.1 ?_
        refine R_ior e_X8_raise_9.2.2.1 ?_
        refine R_putI 8 1 1 WX_ok e_X8_raise_9.2.2.2.1 f_X8_9 kx_58 rfl rfl rfl ?_
        refine R_iinc (ls2 := [(6, vI (l6 + 1)), (9, vI ((l5 + (σ (c + 6 + l6) 6)) % 8)), (8, vI (((σ (c + 6 + l6) 4) * l4) / 3)), (7, vA G (c + 6 + l6)), (0, vA G 58), (1, vA G c), (2, vI l2), (3, vI l3), (4, vI l4), (5, vI l5)]) e_X8_raise_9.2.2.2.2.1 9 rfl (by decide) rfl ?_
        refine R_goto 29 e_X8_raise_9.2.2.2.2.2.1 (by decide) ?_
        refine R_ls (ls2 := [(0, vA G 58), (1, vA G c), (2, vI l2), (3, vI l3), (4, vI l4), (5, vI l5), (6, vI (l6 + 1))]) [4, 5, 6, 7, 8, 9, 0] rfl ?_
        exact h
    · replace h := h.2 q
      refine R_iconst e_X8_raise_7.2.2.1 ?_
      refine R_aload e_X8_raise_7.2.2.2.1 2 rfl ?_
      refine R_getI 3 3 3 e_X8_raise_7.2.2.2.2.1 f_X8_84 (kC_kite hc q7) (fun _ _ => rfl) rfl ?_
      refine R_iconst e_X8_raise_7.2.2.2.2.2.1 ?_
      refine R_isub e_X8_raise_7.2.2.2.2.2.2.1 ?_
      obtain ⟨q21, h⟩ := h
      refine R_callS (mc := 0) (ms := 0) (mc' := 0) (ms' := 0) (M' := M_J9_max_7cf53) (d' := 0) (as := [vI 0, vI (((kup (kup σ 59 l6 ((σ (c + 6 + l6) 1) + ((kst2 ((l5 + (σ (c + 6 + l6) 6)) % 8)) * (((σ (c + 6 + l6) 4) * l4) / 3)))) 60 l6 (((kup σ 59 l6 ((σ (c + 6 + l6) 1) + ((kst2 ((l5 + (σ (c + 6 + l6) 6)) % 8)) * (((σ (c + 6 + l6) 4) * l4) / 3)))) (c + 6 + l6) 2) + ((kst3 ((l5 + (σ (c + 6 + l6) 6)) % 8)) * (((σ (c + 6 + l6) 4) * l4) / 3)))) (c + 6 + l6) 3) - 1)]) (st := [vI l6, vA G 61]) 2 e_X8_raise_7.2.2.2.2.2.2.2.1 (kCSof m_J9_max_7cf53 l_X8_87) (by decide) (by decide) rfl rfl (by show (2 : Nat) ≤ 8; decide) ?_
      refine Run.mono (P_J9_max_7cf53 q21) (fun r s e => ?_)
      obtain ⟨e1, e2⟩ := e
      refine R_eqs (st2 := [vI (max (0) ((((kup (kup σ 59 l6 ((σ (c + 6 + l6) 1) + ((kst2 ((l5 + (σ (c + 6 + l6) 6)) % 8)) * (((σ (c + 6 + l6) 4) * l4) / 3)))) 60 l6 (((kup σ 59 l6 ((σ (c + 6 + l6) 1) + ((kst2 ((l5 + (σ (c + 6 + l6) 6)) % 8)) * (((σ (c + 6 + l6) 4) * l4) / 3)))) (c + 6 + l6) 2) + ((kst3 ((l5 + (σ (c + 6 + l6) 6)) % 8)) * (((σ (c + 6 + l6) 4) * l4) / 3)))) (c + 6 + l6) 3) - 1))), vI l6, vA G 61]) (σ2 := (kup (kup σ 59 l6 ((σ (c + 6 + l6) 1) + ((kst2 ((l5 + (σ (c + 6 + l6) 6)) % 8)) * (((σ (c + 6 + l6) 4) * l4) / 3)))) 60 l6 (((kup σ 59 l6 ((σ (c + 6 + l6) 1) + ((kst2 ((l5 + (σ (c + 6 + l6) 6)) % 8)) * (((σ (c + 6 + l6) 4) * l4) / 3)))) (c + 6 + l6) 2) + ((kst3 ((l5 + (σ (c + 6 + l6) 6)) % 8)) * (((σ (c + 6 + l6) 4) * l4) / 3))))) (by rw [e1]; rfl) e2 ?_
      refine R_goto 149 e_X8_raise_7.2.2.2.2.2.2.2.2.1 (by decide) ?_
      obtain ⟨q22, h⟩ := h
      refine R_iast 6 WX_ok e_X8_raise_8.2.1 kxa_61 q22 ?_
      refine R_iload e_X8_raise_8.2.2.1 7 rfl ?_
      refine R_aload e_X8_raise_8.2.2.2.1 2 rfl ?_
      refine R_getI 3 5 5 e_X8_raise_8.2.2.2.2.1 f_X8_93 (kC_kite hc q7) (fun _ _ => rfl) rfl ?_
      obtain ⟨q23, h⟩ := h
      obtain ⟨q24, h⟩ := h
      refine R_icmp_lt 173 e_X8_raise_8.2.2.2.2.2.1 (by decide) q23 q24 (fun q => ?_) (fun q => ?_)
      · replace h := h.1 q
        refine R_iinc (ls2 := [(6, vI (l6 + 1)), (9, vI ((l5 + (σ (c + 6 + l6) 6)) % 8)), (8, vI (((σ (c + 6 + l6) 4) * l4) / 3)), (7, vA G (c + 6 + l6)), (0, vA G 58), (1, vA G c), (2, vI l2), (3, vI l3), (4, vI l4), (5, vI l5)]) e_X8_raise_9.2.2.2.2.1 9 rfl (by decide) rfl ?_
        refine R_goto 29 e_X8_raise_9.2.2.2.2.2.1 (by decide) ?_
        refine R_ls (ls2 := [(0, vA G 58), (1, vA G c), (2, vI l2), (3, vI l3), (4, vI l4), (5, vI l5), (6, vI (l6 + 1))]) [4, 5, 6, 7, 8, 9, 0] rfl ?_
        exact h
      · replace h := h.2 q
        refine R_aload_n e_X8_raise_8.2.2.2.2.2.2.1 3 rfl ?_
        refine R_dup e_X8_raise_8.2.2.2.2.2.2.2.1 rfl ?_
        refine R_getI 8 1 1 e_X8_raise_8.2.2.2.2.2.2.2.2.1 f_X8_9 kx_58 (fun _ _ => rfl) rfl ?_
        refine R_iconst e_X8_raise_8.2.2.2.2.2.2.2.2.2 ?_
        refine R_iload e_X8_raise_9.1 9 rfl ?_
        refine R_ishl e_X8_raise_9.2.1 ?_
        refine R_ior e_X8_raise_9.2.2.1 ?_
        refine R_putI 8 1 1 WX_ok e_X8_raise_9.2.2.2.1 f_X8_9 kx_58 rfl rfl rfl ?_
        refine R_iinc (ls2 := [(6, vI (l6 + 1)), (9, vI ((l5 + (σ (c + 6 + l6) 6)) % 8)), (8, vI (((σ (c + 6 + l6) 4) * l4) / 3)), (7, vA G (c + 6 + l6)), (0, vA G 58), (1, vA G c), (2, vI l2), (3, vI l3), (4, vI l4), (5, vI l5)]) e_X8_raise_9.2.2.2.2.1 9 rfl (by decide) rfl ?_
        refine R_goto 29 e_X8_raise_9.2.2.2.2.2.1 (by decide) ?_
        refine R_ls (ls2 := [(0, vA G 58), (1, vA G c), (2, vI l2), (3, vI l3), (4, vI l4), (5, vI l5), (6, vI (l6 + 1))]) [4, 5, 6, 7, 8, 9, 0] rfl ?_
        exact h
/-! KiteLand$Sky.ownerWith(II)I -/
theorem e_X8_ownerWith_0 : decode cX8_ownerWith 0 = .ok (.aload_n 0, 1) ∧ decode cX8_ownerWith 1 = .ok (.getfield 25, 3) ∧ decode cX8_ownerWith 4 = .ok (.iload_n 1, 1) ∧ decode cX8_ownerWith 5 = .ok (.iaload, 1) ∧ decode cX8_ownerWith 6 = .ok (.ifCond .ne 5, 3) ∧ decode cX8_ownerWith 9 = .ok (.iload_n 2, 1) ∧ decode cX8_ownerWith 10 = .ok (.ireturn, 1) ∧ decode cX8_ownerWith 11 = .ok (.aload_n 0, 1) ∧ decode cX8_ownerWith 12 = .ok (.getfield 28, 3) ∧ decode cX8_ownerWith 15 = .ok (.iload_n 1, 1) := by decide +kernel
theorem e_X8_ownerWith_1 : decode cX8_ownerWith 16 = .ok (.iaload, 1) ∧ decode cX8_ownerWith 17 = .ok (.istore_n 3, 1) ∧ decode cX8_ownerWith 18 = .ok (.aload_n 0, 1) ∧ decode cX8_ownerWith 19 = .ok (.getfield 31, 3) ∧ decode cX8_ownerWith 22 = .ok (.getfield 119, 3) ∧ decode cX8_ownerWith 25 = .ok (.iconst 2, 1) ∧ decode cX8_ownerWith 26 = .ok (.if_icmp .eq 8, 3) ∧ decode cX8_ownerWith 29 = .ok (.iload_n 3, 1) ∧ decode cX8_ownerWith 30 = .ok (.iconst (-1), 1) ∧ decode cX8_ownerWith 31 = .ok (.if_icmp .ne 5, 3) := by decide +kernel
theorem e_X8_ownerWith_2 : decode cX8_ownerWith 34 = .ok (.iconst (-1), 1) ∧ decode cX8_ownerWith 35 = .ok (.ireturn, 1) ∧ decode cX8_ownerWith 36 = .ok (.aload_n 0, 1) ∧ decode cX8_ownerWith 37 = .ok (.getfield 31, 3) ∧ decode cX8_ownerWith 40 = .ok (.getfield 57, 3) ∧ decode cX8_ownerWith 43 = .ok (.iload_n 2, 1) ∧ decode cX8_ownerWith 44 = .ok (.aaload, 1) ∧ decode cX8_ownerWith 45 = .ok (.getfield 84, 3) ∧ decode cX8_ownerWith 48 = .ok (.aload_n 0, 1) ∧ decode cX8_ownerWith 49 = .ok (.getfield 31, 3) := by decide +kernel
theorem e_X8_ownerWith_3 : decode cX8_ownerWith 52 = .ok (.getfield 57, 3) ∧ decode cX8_ownerWith 55 = .ok (.iload_n 3, 1) ∧ decode cX8_ownerWith 56 = .ok (.aaload, 1) ∧ decode cX8_ownerWith 57 = .ok (.getfield 84, 3) ∧ decode cX8_ownerWith 60 = .ok (.if_icmp .le 7, 3) ∧ decode cX8_ownerWith 63 = .ok (.iconst 1, 1) ∧ decode cX8_ownerWith 64 = .ok (.goto 4, 3) ∧ decode cX8_ownerWith 67 = .ok (.iconst 0, 1) ∧ decode cX8_ownerWith 68 = .ok (.istore 4, 2) ∧ decode cX8_ownerWith 70 = .ok (.aload_n 0, 1) := by decide +kernel
theorem e_X8_ownerWith_4 : decode cX8_ownerWith 71 = .ok (.getfield 31, 3) ∧ decode cX8_ownerWith 74 = .ok (.getfield 119, 3) ∧ decode cX8_ownerWith 77 = .ok (.iconst 1, 1) ∧ decode cX8_ownerWith 78 = .ok (.if_icmp .ne 12, 3) ∧ decode cX8_ownerWith 81 = .ok (.iload 4, 2) ∧ decode cX8_ownerWith 83 = .ok (.ifCond .eq 7, 3) ∧ decode cX8_ownerWith 86 = .ok (.iload_n 2, 1) ∧ decode cX8_ownerWith 87 = .ok (.goto 4, 3) ∧ decode cX8_ownerWith 90 = .ok (.iload_n 3, 1) ∧ decode cX8_ownerWith 91 = .ok (.ireturn, 1) := by decide +kernel
theorem S_X8_ownerWith {G : Kg} {σ : Kmem} {Q : Int → Kmem → Prop} {l1 l2 c : Int} (hc : isC c) (h : (0 ≤ l1 ∧ l1 < 63) ∧ (rI (σ 62 l1)) ∧ ((σ 62 l1 ≠ 0 → (0 ≤ l1 ∧ l1 < 63) ∧ (σ 58 0 = c) ∧ (rI (σ c 3)) ∧ ((σ c 3 = 2 → Q (-1) σ) ∧ (σ c 3 ≠ 2 → (rI (σ 63 l1)) ∧ ((σ 63 l1 ≠ -1 → (σ 58 0 = c) ∧ (0 ≤ l2 ∧ l2 < 6) ∧ (σ 58 0 = c) ∧ (0 ≤ σ 63 l1 ∧ σ 63 l1 < 6) ∧ (rI (σ (c + 6 + l2) 3)) ∧ (rI (σ (c + 6 + (σ 63 l1)) 3)) ∧ ((σ (c + 6 + l2) 3 ≤ σ (c + 6 + (σ 63 l1)) 3 → (σ 58 0 = c) ∧ ((σ c 3 ≠ 1 → Q (σ 63 l1) σ) ∧ (σ c 3 = 1 → Q (σ 63 l1) σ))) ∧ (σ (c + 6 + (σ 63 l1)) 3 < σ (c + 6 + l2) 3 → (σ 58 0 = c) ∧ ((σ c 3 ≠ 1 → Q (σ 63 l1) σ) ∧ (σ c 3 = 1 → Q l2 σ))))) ∧ (σ 63 l1 = -1 → Q (-1) σ))))) ∧ (σ 62 l1 = 0 → Q l2 σ))) : Run G WX M_X8_ownerWith 0 0 0 [vA G 58, vI l1, vI l2] σ Q := by
  refine Run.of (by decide +kernel) (by show (3 : Nat) ≤ 5; decide) ?_
  show Ex G WX M_X8_ownerWith 0 0 0 0 [(0, vA G 58), (1, vI l1), (2, vI l2)] [] σ Q
  refine R_aload_n e_X8_ownerWith_0.1 0 rfl ?_
  refine R_getA 8 5 62 e_X8_ownerWith_0.2.1 f_X8_25 kx_58 (fun _ _ => rfl) rx_58_5 (by decide) ?_
  refine R_iload_n e_X8_ownerWith_0.2.2.1 1 rfl ?_
  obtain ⟨q1, h⟩ := h
  refine R_iald 63 e_X8_ownerWith_0.2.2.2.1 kxa_62 q1 ?_
  obtain ⟨q2, h⟩ := h
  refine R_if_ne 11 e_X8_ownerWith_0.2.2.2.2.1 (by decide) q2  (fun q => ?_) (fun q => ?_)
  · replace h := h.1 q
    refine R_aload_n e_X8_ownerWith_0.2.2.2.2.2.2.2.1 0 rfl ?_
    refine R_getA 8 6 63 e_X8_ownerWith_0.2.2.2.2.2.2.2.2.1 f_X8_28 kx_58 (fun _ _ => rfl) rx_58_6 (by decide) ?_
    refine R_iload_n e_X8_ownerWith_0.2.2.2.2.2.2.2.2.2 1 rfl ?_
    obtain ⟨q3, h⟩ := h
    refine R_iald 63 e_X8_ownerWith_1.1 kxa_63 q3 ?_
    refine R_istore_n (ls2 := [(3, vI (σ 63 l1)), (0, vA G 58), (1, vI l1), (2, vI l2)]) e_X8_ownerWith_1.2.1 (by decide) rfl ?_
    refine R_aload_n e_X8_ownerWith_1.2.2.1 1 rfl ?_
    obtain ⟨q4, h⟩ := h
    refine R_getA 8 0 c e_X8_ownerWith_1.2.2.2.1 f_X8_31 kx_58 (fun _ _ => rfl) ((sky_c _).trans q4) (isC_n hc) ?_
    refine R_getI 0 3 3 e_X8_ownerWith_1.2.2.2.2.1 f_X8_119 (kC_self hc) (fun _ _ => rfl) rfl ?_
    refine R_iconst e_X8_ownerWith_1.2.2.2.2.2.1 ?_
    obtain ⟨q5, h⟩ := h
    refine R_icmp_eq 34 e_X8_ownerWith_1.2.2.2.2.2.2.1 (by decide) q5 (by decide) (fun q => ?_) (fun q => ?_)
    · replace h := h.1 q
      refine R_iconst e_X8_ownerWith_2.1 ?_
      exact R_ireturn e_X8_ownerWith_2.2.1 rfl h
    · replace h := h.2 q
      refine R_iload_n e_X8_ownerWith_1.2.2.2.2.2.2.2.1 0 rfl ?_
      refine R_iconst e_X8_ownerWith_1.2.2.2.2.2.2.2.2.1 ?_
      obtain ⟨q6, h⟩ := h
      refine R_icmp_ne 36 e_X8_ownerWith_1.2.2.2.2.2.2.2.2.2 (by decide) q6 (by decide) (fun q => ?_) (fun q => ?_)
      · replace h := h.1 q
        refine R_aload_n e_X8_ownerWith_2.2.2.1 1 rfl ?_
        obtain ⟨q7, h⟩ := h
        refine R_getA 8 0 c e_X8_ownerWith_2.2.2.2.1 f_X8_31 kx_58 (fun _ _ => rfl) ((sky_c _).trans q7) (isC_n hc) ?_
        refine R_getA 0 10 (c + 3) e_X8_ownerWith_2.2.2.2.2.1 f_X8_57 (kC_self hc) (fun _ _ => rfl) (kC_r10 hc) (kC_n3 hc) ?_
        refine R_iload_n e_X8_ownerWith_2.2.2.2.2.2.1 3 rfl ?_
        obtain ⟨q8, h⟩ := h
        refine R_aald 27 6 (c + 6 + l2) e_X8_ownerWith_2.2.2.2.2.2.2.1 (by decide) (kC_kites hc) q8 (kC_kiteAt hc q8) (kC_kiteN hc q8) ?_
        refine R_getI 3 3 3 e_X8_ownerWith_2.2.2.2.2.2.2.2.1 f_X8_84 (kC_kite hc q8) (fun _ _ => rfl) rfl ?_
        refine R_aload_n e_X8_ownerWith_2.2.2.2.2.2.2.2.2.1 1 rfl ?_
        obtain ⟨q9, h⟩ := h
        refine R_getA 8 0 c e_X8_ownerWith_2.2.2.2.2.2.2.2.2.2 f_X8_31 kx_58 (fun _ _ => rfl) ((sky_c _).trans q9) (isC_n hc) ?_
        refine R_getA 0 10 (c + 3) e_X8_ownerWith_3.1 f_X8_57 (kC_self hc) (fun _ _ => rfl) (kC_r10 hc) (kC_n3 hc) ?_
        refine R_iload_n e_X8_ownerWith_3.2.1 0 rfl ?_
        obtain ⟨q10, h⟩ := h
        refine R_aald 27 6 (c + 6 + (σ 63 l1)) e_X8_ownerWith_3.2.2.1 (by decide) (kC_kites hc) q10 (kC_kiteAt hc q10) (kC_kiteN hc q10) ?_
        refine R_getI 3 3 3 e_X8_ownerWith_3.2.2.2.1 f_X8_84 (kC_kite hc q10) (fun _ _ => rfl) rfl ?_
        obtain ⟨q11, h⟩ := h
        obtain ⟨q12, h⟩ := h
        refine R_icmp_le 67 e_X8_ownerWith_3.2.2.2.2.1 (by decide) q11 q12 (fun q => ?_) (fun q => ?_)
        · replace h := h.1 q
          refine R_iconst e_X8_ownerWith_3.2.2.2.2.2.2.2.1 ?_
          refine R_istore (ls2 := [(4, vI 0), (3, vI (σ 63 l1)), (0, vA G 58), (1, vI l1), (2, vI l2)]) e_X8_ownerWith_3.2.2.2.2.2.2.2.2.1 (by decide) rfl ?_
          refine R_aload_n e_X8_ownerWith_3.2.2.2.2.2.2.2.2.2 2 rfl ?_
          obtain ⟨q13, h⟩ := h
          refine R_getA 8 0 c e_X8_ownerWith_4.1 f_X8_31 kx_58 (fun _ _ => rfl) ((sky_c _).trans q13) (isC_n hc) ?_
          refine R_getI 0 3 3 e_X8_ownerWith_4.2.1 f_X8_119 (kC_self hc) (fun _ _ => rfl) rfl ?_
          refine R_iconst e_X8_ownerWith_4.2.2.1 ?_
          refine R_icmp_ne 90 e_X8_ownerWith_4.2.2.2.1 (by decide) q5 (by decide) (fun q => ?_) (fun q => ?_)
          · replace h := h.1 q
            refine R_iload_n e_X8_ownerWith_4.2.2.2.2.2.2.2.2.1 1 rfl ?_
            exact R_ireturn e_X8_ownerWith_4.2.2.2.2.2.2.2.2.2 rfl h
          · replace h := h.2 q
            refine R_iload e_X8_ownerWith_4.2.2.2.2.1 0 rfl ?_
            refine R_if_eq 90 e_X8_ownerWith_4.2.2.2.2.2.1 (by decide) (by decide)  (fun q => ?_) (fun q => absurd q (by decide))
            refine R_iload_n e_X8_ownerWith_4.2.2.2.2.2.2.2.2.1 1 rfl ?_
            exact R_ireturn e_X8_ownerWith_4.2.2.2.2.2.2.2.2.2 rfl h
        · replace h := h.2 q
          refine R_iconst e_X8_ownerWith_3.2.2.2.2.2.1 ?_
          refine R_goto 68 e_X8_ownerWith_3.2.2.2.2.2.2.1 (by decide) ?_
          refine R_istore (ls2 := [(4, vI 1), (3, vI (σ 63 l1)), (0, vA G 58), (1, vI l1), (2, vI l2)]) e_X8_ownerWith_3.2.2.2.2.2.2.2.2.1 (by decide) rfl ?_
          refine R_aload_n e_X8_ownerWith_3.2.2.2.2.2.2.2.2.2 2 rfl ?_
          obtain ⟨q14, h⟩ := h
          refine R_getA 8 0 c e_X8_ownerWith_4.1 f_X8_31 kx_58 (fun _ _ => rfl) ((sky_c _).trans q14) (isC_n hc) ?_
          refine R_getI 0 3 3 e_X8_ownerWith_4.2.1 f_X8_119 (kC_self hc) (fun _ _ => rfl) rfl ?_
          refine R_iconst e_X8_ownerWith_4.2.2.1 ?_
          refine R_icmp_ne 90 e_X8_ownerWith_4.2.2.2.1 (by decide) q5 (by decide) (fun q => ?_) (fun q => ?_)
          · replace h := h.1 q
            refine R_iload_n e_X8_ownerWith_4.2.2.2.2.2.2.2.2.1 1 rfl ?_
            exact R_ireturn e_X8_ownerWith_4.2.2.2.2.2.2.2.2.2 rfl h
          · replace h := h.2 q
            refine R_iload e_X8_ownerWith_4.2.2.2.2.1 0 rfl ?_
            refine R_if_eq 90 e_X8_ownerWith_4.2.2.2.2.2.1 (by decide) (by decide)  (fun q => absurd q (by decide)) (fun q => ?_)
            refine R_iload_n e_X8_ownerWith_4.2.2.2.2.2.2.1 4 rfl ?_
            refine R_goto 91 e_X8_ownerWith_4.2.2.2.2.2.2.2.1 (by decide) ?_
            exact R_ireturn e_X8_ownerWith_4.2.2.2.2.2.2.2.2.2 rfl h
      · replace h := h.2 q
        refine R_iconst e_X8_ownerWith_2.1 ?_
        exact R_ireturn e_X8_ownerWith_2.2.1 rfl h
  · replace h := h.2 q
    refine R_iload_n e_X8_ownerWith_0.2.2.2.2.2.1 2 rfl ?_
    exact R_ireturn e_X8_ownerWith_0.2.2.2.2.2.2.1 rfl h
/-! KiteLand$Sky.castShadeOf(I)V -/
theorem e_X8_castShadeOf_0 : decode cX8_castShadeOf 0 = .ok (.aload_n 0, 1) ∧ decode cX8_castShadeOf 1 = .ok (.getfield 31, 3) ∧ decode cX8_castShadeOf 4 = .ok (.getfield 107, 3) ∧ decode cX8_castShadeOf 7 = .ok (.iconst 1, 1) ∧ decode cX8_castShadeOf 8 = .ok (.isub, 1) ∧ decode cX8_castShadeOf 9 = .ok (.aload_n 0, 1) ∧ decode cX8_castShadeOf 10 = .ok (.getfield 19, 3) ∧ decode cX8_castShadeOf 13 = .ok (.iload_n 1, 1) ∧ decode cX8_castShadeOf 14 = .ok (.iaload, 1) ∧ decode cX8_castShadeOf 15 = .ok (.aload_n 0, 1) := by decide +kernel
theorem e_X8_castShadeOf_1 : decode cX8_castShadeOf 16 = .ok (.getfield 22, 3) ∧ decode cX8_castShadeOf 19 = .ok (.iload_n 1, 1) ∧ decode cX8_castShadeOf 20 = .ok (.iaload, 1) ∧ decode cX8_castShadeOf 21 = .ok (.iadd, 1) ∧ decode cX8_castShadeOf 22 = .ok (.invokestatic 110, 3) ∧ decode cX8_castShadeOf 25 = .ok (.istore_n 2, 1) ∧ decode cX8_castShadeOf 26 = .ok (.aload_n 0, 1) ∧ decode cX8_castShadeOf 27 = .ok (.getfield 31, 3) ∧ decode cX8_castShadeOf 30 = .ok (.getfield 113, 3) ∧ decode cX8_castShadeOf 33 = .ok (.iconst 1, 1) := by decide +kernel
theorem e_X8_castShadeOf_2 : decode cX8_castShadeOf 34 = .ok (.isub, 1) ∧ decode cX8_castShadeOf 35 = .ok (.aload_n 0, 1) ∧ decode cX8_castShadeOf 36 = .ok (.getfield 15, 3) ∧ decode cX8_castShadeOf 39 = .ok (.iload_n 1, 1) ∧ decode cX8_castShadeOf 40 = .ok (.iaload, 1) ∧ decode cX8_castShadeOf 41 = .ok (.aload_n 0, 1) ∧ decode cX8_castShadeOf 42 = .ok (.getfield 22, 3) ∧ decode cX8_castShadeOf 45 = .ok (.iload_n 1, 1) ∧ decode cX8_castShadeOf 46 = .ok (.iaload, 1) ∧ decode cX8_castShadeOf 47 = .ok (.iadd, 1) := by decide +kernel
theorem e_X8_castShadeOf_3 : decode cX8_castShadeOf 48 = .ok (.invokestatic 110, 3) ∧ decode cX8_castShadeOf 51 = .ok (.istore_n 3, 1) ∧ decode cX8_castShadeOf 52 = .ok (.iconst 0, 1) ∧ decode cX8_castShadeOf 53 = .ok (.aload_n 0, 1) ∧ decode cX8_castShadeOf 54 = .ok (.getfield 19, 3) ∧ decode cX8_castShadeOf 57 = .ok (.iload_n 1, 1) ∧ decode cX8_castShadeOf 58 = .ok (.iaload, 1) ∧ decode cX8_castShadeOf 59 = .ok (.aload_n 0, 1) ∧ decode cX8_castShadeOf 60 = .ok (.getfield 22, 3) ∧ decode cX8_castShadeOf 63 = .ok (.iload_n 1, 1) := by decide +kernel
theorem e_X8_castShadeOf_4 : decode cX8_castShadeOf 64 = .ok (.iaload, 1) ∧ decode cX8_castShadeOf 65 = .ok (.isub, 1) ∧ decode cX8_castShadeOf 66 = .ok (.invokestatic 87, 3) ∧ decode cX8_castShadeOf 69 = .ok (.istore 4, 2) ∧ decode cX8_castShadeOf 71 = .ok (.iload 4, 2) ∧ decode cX8_castShadeOf 73 = .ok (.iload_n 2, 1) ∧ decode cX8_castShadeOf 74 = .ok (.if_icmp .gt 77, 3) ∧ decode cX8_castShadeOf 77 = .ok (.iconst 0, 1) ∧ decode cX8_castShadeOf 78 = .ok (.aload_n 0, 1) ∧ decode cX8_castShadeOf 79 = .ok (.getfield 15, 3) := by decide +kernel
theorem e_X8_castShadeOf_5 : decode cX8_castShadeOf 82 = .ok (.iload_n 1, 1) ∧ decode cX8_castShadeOf 83 = .ok (.iaload, 1) ∧ decode cX8_castShadeOf 84 = .ok (.aload_n 0, 1) ∧ decode cX8_castShadeOf 85 = .ok (.getfield 22, 3) ∧ decode cX8_castShadeOf 88 = .ok (.iload_n 1, 1) ∧ decode cX8_castShadeOf 89 = .ok (.iaload, 1) ∧ decode cX8_castShadeOf 90 = .ok (.isub, 1) ∧ decode cX8_castShadeOf 91 = .ok (.invokestatic 87, 3) ∧ decode cX8_castShadeOf 94 = .ok (.istore 5, 2) ∧ decode cX8_castShadeOf 96 = .ok (.iload 5, 2) := by decide +kernel
theorem e_X8_castShadeOf_6 : decode cX8_castShadeOf 98 = .ok (.iload_n 3, 1) ∧ decode cX8_castShadeOf 99 = .ok (.if_icmp .gt 46, 3) ∧ decode cX8_castShadeOf 102 = .ok (.iload 4, 2) ∧ decode cX8_castShadeOf 104 = .ok (.bipush 9, 2) ∧ decode cX8_castShadeOf 106 = .ok (.imul, 1) ∧ decode cX8_castShadeOf 107 = .ok (.iload 5, 2) ∧ decode cX8_castShadeOf 109 = .ok (.iadd, 1) ∧ decode cX8_castShadeOf 110 = .ok (.istore 6, 2) ∧ decode cX8_castShadeOf 112 = .ok (.aload_n 0, 1) ∧ decode cX8_castShadeOf 113 = .ok (.getfield 28, 3) := by decide +kernel
theorem e_X8_castShadeOf_7 : decode cX8_castShadeOf 116 = .ok (.iload 6, 2) ∧ decode cX8_castShadeOf 118 = .ok (.aload_n 0, 1) ∧ decode cX8_castShadeOf 119 = .ok (.iload 6, 2) ∧ decode cX8_castShadeOf 121 = .ok (.iload_n 1, 1) ∧ decode cX8_castShadeOf 122 = .ok (.invokevirtual 116, 3) ∧ decode cX8_castShadeOf 125 = .ok (.iastore, 1) ∧ decode cX8_castShadeOf 126 = .ok (.aload_n 0, 1) ∧ decode cX8_castShadeOf 127 = .ok (.getfield 25, 3) ∧ decode cX8_castShadeOf 130 = .ok (.iload 6, 2) ∧ decode cX8_castShadeOf 132 = .ok (.dup2, 1) := by decide +kernel
theorem e_X8_castShadeOf_8 : decode cX8_castShadeOf 133 = .ok (.iaload, 1) ∧ decode cX8_castShadeOf 134 = .ok (.iconst 1, 1) ∧ decode cX8_castShadeOf 135 = .ok (.iload_n 1, 1) ∧ decode cX8_castShadeOf 136 = .ok (.ishl, 1) ∧ decode cX8_castShadeOf 137 = .ok (.ior, 1) ∧ decode cX8_castShadeOf 138 = .ok (.iastore, 1) ∧ decode cX8_castShadeOf 139 = .ok (.iinc 5 1, 3) ∧ decode cX8_castShadeOf 142 = .ok (.goto (-46), 3) ∧ decode cX8_castShadeOf 145 = .ok (.iinc 4 1, 3) ∧ decode cX8_castShadeOf 148 = .ok (.goto (-77), 3) := by decide +kernel
theorem e_X8_castShadeOf_9 : decode cX8_castShadeOf 151 = .ok (.return_, 1) := by decide +kernel
abbrev E_X8_castShadeOf_71 (G : Kg) (l1 l2 l3 l4 : Int) (σ : Kmem) (Q : Int → Kmem → Prop) : Prop := Ex G WX M_X8_castShadeOf 1 0 0 71 [(0, vA G 58), (1, vI l1), (2, vI l2), (3, vI l3), (4, vI l4)] [] σ Q
abbrev E_X8_castShadeOf_96 (G : Kg) (l1 l2 l3 l4 l5 : Int) (σ : Kmem) (Q : Int → Kmem → Prop) : Prop := Ex G WX M_X8_castShadeOf 1 0 0 96 [(0, vA G 58), (1, vI l1), (2, vI l2), (3, vI l3), (4, vI l4), (5, vI l5)] [] σ Q
theorem S_X8_castShadeOf {G : Kg} {σ : Kmem} {Q : Int → Kmem → Prop} {l1 c : Int} (hc : isC c) (h : (σ 58 0 = c) ∧ (0 ≤ l1 ∧ l1 < 6) ∧ (0 ≤ l1 ∧ l1 < 6) ∧ (rI (((σ c 1) - 1)) ∧ rI (((σ 60 l1) + (σ 61 l1)))) ∧ (σ 58 0 = c) ∧ (0 ≤ l1 ∧ l1 < 6) ∧ (0 ≤ l1 ∧ l1 < 6) ∧ (rI (((σ c 0) - 1)) ∧ rI (((σ 59 l1) + (σ 61 l1)))) ∧ (0 ≤ l1 ∧ l1 < 6) ∧ (0 ≤ l1 ∧ l1 < 6) ∧ (rI (0) ∧ rI (((σ 60 l1) - (σ 61 l1)))) ∧ E_X8_castShadeOf_71 G l1 (min (((σ c 1) - 1)) (((σ 60 l1) + (σ 61 l1)))) (min (((σ c 0) - 1)) (((σ 59 l1) + (σ 61 l1)))) (max (0) (((σ 60 l1) - (σ 61 l1)))) σ Q) : Run G WX M_X8_castShadeOf 1 0 0 [vA G 58, vI l1] σ Q := by
  refine Run.of (by decide +kernel) (by show (2 : Nat) ≤ 7; decide) ?_
  show Ex G WX M_X8_castShadeOf 1 0 0 0 [(0, vA G 58), (1, vI l1)] [] σ Q
  refine R_aload_n e_X8_castShadeOf_0.1 0 rfl ?_
  obtain ⟨q1, h⟩ := h
  refine R_getA 8 0 c e_X8_castShadeOf_0.2.1 f_X8_31 kx_58 (fun _ _ => rfl) ((sky_c _).trans q1) (isC_n hc) ?_
  refine R_getI 0 1 1 e_X8_castShadeOf_0.2.2.1 f_X8_107 (kC_self hc) (fun _ _ => rfl) rfl ?_
  refine R_iconst e_X8_castShadeOf_0.2.2.2.1 ?_
  refine R_isub e_X8_castShadeOf_0.2.2.2.2.1 ?_
  refine R_aload_n e_X8_castShadeOf_0.2.2.2.2.2.1 0 rfl ?_
  refine R_getA 8 3 60 e_X8_castShadeOf_0.2.2.2.2.2.2.1 f_X8_19 kx_58 (fun _ _ => rfl) rx_58_3 (by decide) ?_
  refine R_iload_n e_X8_castShadeOf_0.2.2.2.2.2.2.2.1 1 rfl ?_
  obtain ⟨q2, h⟩ := h
  refine R_iald 6 e_X8_castShadeOf_0.2.2.2.2.2.2.2.2.1 kxa_60 q2 ?_
  refine R_aload_n e_X8_castShadeOf_0.2.2.2.2.2.2.2.2.2 0 rfl ?_
  refine R_getA 8 4 61 e_X8_castShadeOf_1.1 f_X8_22 kx_58 (fun _ _ => rfl) rx_58_4 (by decide) ?_
  refine R_iload_n e_X8_castShadeOf_1.2.1 1 rfl ?_
  obtain ⟨q3, h⟩ := h
  refine R_iald 6 e_X8_castShadeOf_1.2.2.1 kxa_61 q3 ?_
  refine R_iadd e_X8_castShadeOf_1.2.2.2.1 ?_
  obtain ⟨q6, h⟩ := h
  refine R_callS (mc := 0) (ms := 0) (mc' := 0) (ms' := 0) (M' := M_J9_min_7cf53) (d' := 0) (as := [vI ((σ c 1) - 1), vI ((σ 60 l1) + (σ 61 l1))]) (st := []) 2 e_X8_castShadeOf_1.2.2.2.2.1 (kCSof m_J9_min_7cf53 l_X8_110) (by decide) (by decide) rfl rfl (by show (0 : Nat) ≤ 8; decide) ?_
  refine Run.mono (P_J9_min_7cf53 q6) (fun r s e => ?_)
  obtain ⟨e1, e2⟩ := e
  refine R_eqs (st2 := [vI (min (((σ c 1) - 1)) (((σ 60 l1) + (σ 61 l1))))]) (σ2 := σ) (by rw [e1]; rfl) e2 ?_
  refine R_istore_n (ls2 := [(2, vI (min (((σ c 1) - 1)) (((σ 60 l1) + (σ 61 l1))))), (0, vA G 58), (1, vI l1)]) e_X8_castShadeOf_1.2.2.2.2.2.1 (by decide) rfl ?_
  refine R_aload_n e_X8_castShadeOf_1.2.2.2.2.2.2.1 1 rfl ?_
  obtain ⟨q7, h⟩ := h
  refine R_getA 8 0 c e_X8_castShadeOf_1.2.2.2.2.2.2.2.1 f_X8_31 kx_58 (fun _ _ => rfl) ((sky_c _).trans q7) (isC_n hc) ?_
  refine R_getI 0 0 0 e_X8_castShadeOf_1.2.2.2.2.2.2.2.2.1 f_X8_113 (kC_self hc) (fun _ _ => rfl) rfl ?_
  refine R_iconst e_X8_castShadeOf_1.2.2.2.2.2.2.2.2.2 ?_
  refine R_isub e_X8_castShadeOf_2.1 ?_
  refine R_aload_n e_X8_castShadeOf_2.2.1 1 rfl ?_
  refine R_getA 8 2 59 e_X8_castShadeOf_2.2.2.1 f_X8_15 kx_58 (fun _ _ => rfl) rx_58_2 (by decide) ?_
  refine R_iload_n e_X8_castShadeOf_2.2.2.2.1 2 rfl ?_
  obtain ⟨q8, h⟩ := h
  refine R_iald 6 e_X8_castShadeOf_2.2.2.2.2.1 kxa_59 q8 ?_
  refine R_aload_n e_X8_castShadeOf_2.2.2.2.2.2.1 1 rfl ?_
  refine R_getA 8 4 61 e_X8_castShadeOf_2.2.2.2.2.2.2.1 f_X8_22 kx_58 (fun _ _ => rfl) rx_58_4 (by decide) ?_
  refine R_iload_n e_X8_castShadeOf_2.2.2.2.2.2.2.2.1 2 rfl ?_
  obtain ⟨q9, h⟩ := h
  refine R_iald 6 e_X8_castShadeOf_2.2.2.2.2.2.2.2.2.1 kxa_61 q9 ?_
  refine R_iadd e_X8_castShadeOf_2.2.2.2.2.2.2.2.2.2 ?_
  obtain ⟨q12, h⟩ := h
  refine R_callS (mc := 0) (ms := 0) (mc' := 0) (ms' := 0) (M' := M_J9_min_7cf53) (d' := 0) (as := [vI ((σ c 0) - 1), vI ((σ 59 l1) + (σ 61 l1))]) (st := []) 2 e_X8_castShadeOf_3.1 (kCSof m_J9_min_7cf53 l_X8_110) (by decide) (by decide) rfl rfl (by show (0 : Nat) ≤ 8; decide) ?_
  refine Run.mono (P_J9_min_7cf53 q12) (fun r s e => ?_)
  obtain ⟨e1, e2⟩ := e
  refine R_eqs (st2 := [vI (min (((σ c 0) - 1)) (((σ 59 l1) + (σ 61 l1))))]) (σ2 := σ) (by rw [e1]; rfl) e2 ?_
  refine R_istore_n (ls2 := [(3, vI (min (((σ c 0) - 1)) (((σ 59 l1) + (σ 61 l1))))), (2, vI (min (((σ c 1) - 1)) (((σ 60 l1) + (σ 61 l1))))), (0, vA G 58), (1, vI l1)]) e_X8_castShadeOf_3.2.1 (by decide) rfl ?_
  refine R_iconst e_X8_castShadeOf_3.2.2.1 ?_
  refine R_aload_n e_X8_castShadeOf_3.2.2.2.1 2 rfl ?_
  refine R_getA 8 3 60 e_X8_castShadeOf_3.2.2.2.2.1 f_X8_19 kx_58 (fun _ _ => rfl) rx_58_3 (by decide) ?_
  refine R_iload_n e_X8_castShadeOf_3.2.2.2.2.2.1 3 rfl ?_
  obtain ⟨q13, h⟩ := h
  refine R_iald 6 e_X8_castShadeOf_3.2.2.2.2.2.2.1 kxa_60 q13 ?_
  refine R_aload_n e_X8_castShadeOf_3.2.2.2.2.2.2.2.1 2 rfl ?_
  refine R_getA 8 4 61 e_X8_castShadeOf_3.2.2.2.2.2.2.2.2.1 f_X8_22 kx_58 (fun _ _ => rfl) rx_58_4 (by decide) ?_
  refine R_iload_n e_X8_castShadeOf_3.2.2.2.2.2.2.2.2.2 3 rfl ?_
  obtain ⟨q14, h⟩ := h
  refine R_iald 6 e_X8_castShadeOf_4.1 kxa_61 q14 ?_
  refine R_isub e_X8_castShadeOf_4.2.1 ?_
  obtain ⟨q17, h⟩ := h
  refine R_callS (mc := 0) (ms := 0) (mc' := 0) (ms' := 0) (M' := M_J9_max_7cf53) (d' := 0) (as := [vI 0, vI ((σ 60 l1) - (σ 61 l1))]) (st := []) 2 e_X8_castShadeOf_4.2.2.1 (kCSof m_J9_max_7cf53 l_X8_87) (by decide) (by decide) rfl rfl (by show (0 : Nat) ≤ 8; decide) ?_
  refine Run.mono (P_J9_max_7cf53 q17) (fun r s e => ?_)
  obtain ⟨e1, e2⟩ := e
  refine R_eqs (st2 := [vI (max (0) (((σ 60 l1) - (σ 61 l1))))]) (σ2 := σ) (by rw [e1]; rfl) e2 ?_
  refine R_istore (ls2 := [(4, vI (max (0) (((σ 60 l1) - (σ 61 l1))))), (3, vI (min (((σ c 0) - 1)) (((σ 59 l1) + (σ 61 l1))))), (2, vI (min (((σ c 1) - 1)) (((σ 60 l1) + (σ 61 l1))))), (0, vA G 58), (1, vI l1)]) e_X8_castShadeOf_4.2.2.2.1 (by decide) rfl ?_
  refine R_ls (ls2 := [(0, vA G 58), (1, vI l1), (2, vI (min (((σ c 1) - 1)) (((σ 60 l1) + (σ 61 l1))))), (3, vI (min (((σ c 0) - 1)) (((σ 59 l1) + (σ 61 l1))))), (4, vI (max (0) (((σ 60 l1) - (σ 61 l1)))))]) [3, 4, 2, 1, 0] rfl ?_
  exact h
theorem S_X8_castShadeOf_71 {G : Kg} {σ : Kmem} {Q : Int → Kmem → Prop} {l1 c l2 l3 l4 : Int} (hc : isC c) (h : (rI l4) ∧ (rI l2) ∧ ((l2 < l4 → Q 0 σ) ∧ (l4 ≤ l2 → (0 ≤ l1 ∧ l1 < 6) ∧ (0 ≤ l1 ∧ l1 < 6) ∧ (rI (0) ∧ rI (((σ 59 l1) - (σ 61 l1)))) ∧ E_X8_castShadeOf_96 G l1 l2 l3 l4 (max (0) (((σ 59 l1) - (σ 61 l1)))) σ Q))) : E_X8_castShadeOf_71 G l1 l2 l3 l4 σ Q := by
  refine R_iload e_X8_castShadeOf_4.2.2.2.2.1 4 rfl ?_
  refine R_iload_n e_X8_castShadeOf_4.2.2.2.2.2.1 2 rfl ?_
  obtain ⟨q18, h⟩ := h
  obtain ⟨q19, h⟩ := h
  refine R_icmp_gt 151 e_X8_castShadeOf_4.2.2.2.2.2.2.1 (by decide) q18 q19 (fun q => ?_) (fun q => ?_)
  · replace h := h.1 q
    exact R_return e_X8_castShadeOf_9 rfl h
  · replace h := h.2 q
    refine R_iconst e_X8_castShadeOf_4.2.2.2.2.2.2.2.1 ?_
    refine R_aload_n e_X8_castShadeOf_4.2.2.2.2.2.2.2.2.1 0 rfl ?_
    refine R_getA 8 2 59 e_X8_castShadeOf_4.2.2.2.2.2.2.2.2.2 f_X8_15 kx_58 (fun _ _ => rfl) rx_58_2 (by decide) ?_
    refine R_iload_n e_X8_castShadeOf_5.1 1 rfl ?_
    obtain ⟨q20, h⟩ := h
    refine R_iald 6 e_X8_castShadeOf_5.2.1 kxa_59 q20 ?_
    refine R_aload_n e_X8_castShadeOf_5.2.2.1 0 rfl ?_
    refine R_getA 8 4 61 e_X8_castShadeOf_5.2.2.2.1 f_X8_22 kx_58 (fun _ _ => rfl) rx_58_4 (by decide) ?_
    refine R_iload_n e_X8_castShadeOf_5.2.2.2.2.1 1 rfl ?_
    obtain ⟨q21, h⟩ := h
    refine R_iald 6 e_X8_castShadeOf_5.2.2.2.2.2.1 kxa_61 q21 ?_
    refine R_isub e_X8_castShadeOf_5.2.2.2.2.2.2.1 ?_
    obtain ⟨q24, h⟩ := h
    refine R_callS (mc := 0) (ms := 0) (mc' := 0) (ms' := 0) (M' := M_J9_max_7cf53) (d' := 0) (as := [vI 0, vI ((σ 59 l1) - (σ 61 l1))]) (st := []) 2 e_X8_castShadeOf_5.2.2.2.2.2.2.2.1 (kCSof m_J9_max_7cf53 l_X8_87) (by decide) (by decide) rfl rfl (by show (0 : Nat) ≤ 8; decide) ?_
    refine Run.mono (P_J9_max_7cf53 q24) (fun r s e => ?_)
    obtain ⟨e1, e2⟩ := e
    refine R_eqs (st2 := [vI (max (0) (((σ 59 l1) - (σ 61 l1))))]) (σ2 := σ) (by rw [e1]; rfl) e2 ?_
    refine R_istore (ls2 := [(5, vI (max (0) (((σ 59 l1) - (σ 61 l1))))), (0, vA G 58), (1, vI l1), (2, vI l2), (3, vI l3), (4, vI l4)]) e_X8_castShadeOf_5.2.2.2.2.2.2.2.2.1 (by decide) rfl ?_
    refine R_ls (ls2 := [(0, vA G 58), (1, vI l1), (2, vI l2), (3, vI l3), (4, vI l4), (5, vI (max (0) (((σ 59 l1) - (σ 61 l1)))))]) [1, 2, 3, 4, 5, 0] rfl ?_
    exact h
theorem S_X8_castShadeOf_96 {G : Kg} {σ : Kmem} {Q : Int → Kmem → Prop} {l1 c l2 l3 l4 l5 : Int} (hc : isC c) (h : (rI l5) ∧ (rI l3) ∧ ((l3 < l5 → E_X8_castShadeOf_71 G l1 l2 l3 (l4 + 1) σ Q) ∧ (l5 ≤ l3 → Run G WX M_X8_ownerWith 0 0 0 [vA G 58, vI ((l4 * 9) + l5), vI l1] σ (fun r27 s28 => (0 ≤ (l4 * 9) + l5 ∧ (l4 * 9) + l5 < 63) ∧ (0 ≤ (l4 * 9) + l5 ∧ (l4 * 9) + l5 < 63) ∧ (0 ≤ (l4 * 9) + l5 ∧ (l4 * 9) + l5 < 63) ∧ E_X8_castShadeOf_96 G l1 l2 l3 l4 (l5 + 1) (kup (kup s28 63 ((l4 * 9) + l5) r27) 62 ((l4 * 9) + l5) (kor ((kup s28 63 ((l4 * 9) + l5) r27) 62 ((l4 * 9) + l5)) (kshl 1 l1))) Q)))) : E_X8_castShadeOf_96 G l1 l2 l3 l4 l5 σ Q := by
  refine R_iload e_X8_castShadeOf_5.2.2.2.2.2.2.2.2.2 5 rfl ?_
  refine R_iload_n e_X8_castShadeOf_6.1 3 rfl ?_
  obtain ⟨q25, h⟩ := h
  obtain ⟨q26, h⟩ := h
  refine R_icmp_gt 145 e_X8_castShadeOf_6.2.1 (by decide) q25 q26 (fun q => ?_) (fun q => ?_)
  · replace h := h.1 q
    refine R_iinc (ls2 := [(4, vI (l4 + 1)), (0, vA G 58), (1, vI l1), (2, vI l2), (3, vI l3), (5, vI l5)]) e_X8_castShadeOf_8.2.2.2.2.2.2.2.2.1 4 rfl (by decide) rfl ?_
    refine R_goto 71 e_X8_castShadeOf_8.2.2.2.2.2.2.2.2.2 (by decide) ?_
    refine R_ls (ls2 := [(0, vA G 58), (1, vI l1), (2, vI l2), (3, vI l3), (4, vI (l4 + 1))]) [1, 2, 3, 4, 0] rfl ?_
    exact h
  · replace h := h.2 q
    refine R_iload e_X8_castShadeOf_6.2.2.1 4 rfl ?_
    refine R_bipush e_X8_castShadeOf_6.2.2.2.1 (by decide) ?_
    refine R_imul e_X8_castShadeOf_6.2.2.2.2.1 ?_
    refine R_iload e_X8_castShadeOf_6.2.2.2.2.2.1 5 rfl ?_
    refine R_iadd e_X8_castShadeOf_6.2.2.2.2.2.2.1 ?_
    refine R_istore (ls2 := [(6, vI ((l4 * 9) + l5)), (0, vA G 58), (1, vI l1), (2, vI l2), (3, vI l3), (4, vI l4), (5, vI l5)]) e_X8_castShadeOf_6.2.2.2.2.2.2.2.1 (by decide) rfl ?_
    refine R_aload_n e_X8_castShadeOf_6.2.2.2.2.2.2.2.2.1 1 rfl ?_
    refine R_getA 8 6 63 e_X8_castShadeOf_6.2.2.2.2.2.2.2.2.2 f_X8_28 kx_58 (fun _ _ => rfl) rx_58_6 (by decide) ?_
    refine R_iload e_X8_castShadeOf_7.1 0 rfl ?_
    refine R_aload_n e_X8_castShadeOf_7.2.1 1 rfl ?_
    refine R_iload e_X8_castShadeOf_7.2.2.1 0 rfl ?_
    refine R_iload_n e_X8_castShadeOf_7.2.2.2.1 2 rfl ?_
    refine R_callV (mc := 0) (ms := 0) (mc' := 0) (ms' := 0) (M' := M_X8_ownerWith) (d' := 0) (as := [vI ((l4 * 9) + l5), vI l1]) (st := [vI ((l4 * 9) + l5), vA G 63]) 8 2 e_X8_castShadeOf_7.2.2.2.2.1 (kCVof m_X8_ownerWith l_X8_116) rfl (by decide) kx_58 (by decide) (by decide) rfl rfl (by show (2 : Nat) ≤ 8; decide) ?_
    refine Run.mono h (fun r27 s28 h => ?_)
    refine R_eqs (st2 := [vI r27, vI ((l4 * 9) + l5), vA G 63]) rfl rfl ?_
    obtain ⟨q29, h⟩ := h
    refine R_iast 63 WX_ok e_X8_castShadeOf_7.2.2.2.2.2.1 kxa_63 q29 ?_
    refine R_aload_n e_X8_castShadeOf_7.2.2.2.2.2.2.1 1 rfl ?_
    refine R_getA 8 5 62 e_X8_castShadeOf_7.2.2.2.2.2.2.2.1 f_X8_25 kx_58 (fun _ _ => rfl) rx_58_5 (by decide) ?_
    refine R_iload e_X8_castShadeOf_7.2.2.2.2.2.2.2.2.1 0 rfl ?_
    refine R_dup2 e_X8_castShadeOf_7.2.2.2.2.2.2.2.2.2 rfl rfl ?_
    obtain ⟨q30, h⟩ := h
    refine R_iald 63 e_X8_castShadeOf_8.1 kxa_62 q30 ?_
    refine R_iconst e_X8_castShadeOf_8.2.1 ?_
    refine R_iload_n e_X8_castShadeOf_8.2.2.1 2 rfl ?_
    refine R_ishl e_X8_castShadeOf_8.2.2.2.1 ?_
    refine R_ior e_X8_castShadeOf_8.2.2.2.2.1 ?_
    obtain ⟨q31, h⟩ := h
    refine R_iast 63 WX_ok e_X8_castShadeOf_8.2.2.2.2.2.1 kxa_62 q31 ?_
    refine R_iinc (ls2 := [(5, vI (l5 + 1)), (6, vI ((l4 * 9) + l5)), (0, vA G 58), (1, vI l1), (2, vI l2), (3, vI l3), (4, vI l4)]) e_X8_castShadeOf_8.2.2.2.2.2.2.1 6 rfl (by decide) rfl ?_
    refine R_goto 96 e_X8_castShadeOf_8.2.2.2.2.2.2.2.1 (by decide) ?_
    refine R_ls (ls2 := [(0, vA G 58), (1, vI l1), (2, vI l2), (3, vI l3), (4, vI l4), (5, vI (l5 + 1))]) [2, 3, 4, 5, 6, 0] rfl ?_
    exact h
/-! KiteLand$Sky.castShade()V -/
theorem e_X8_castShade_0 : decode cX8_castShade 0 = .ok (.iconst 0, 1) ∧ decode cX8_castShade 1 = .ok (.istore_n 1, 1) ∧ decode cX8_castShade 2 = .ok (.iload_n 1, 1) ∧ decode cX8_castShade 3 = .ok (.bipush 63, 2) ∧ decode cX8_castShade 5 = .ok (.if_icmp .ge 23, 3) ∧ decode cX8_castShade 8 = .ok (.aload_n 0, 1) ∧ decode cX8_castShade 9 = .ok (.getfield 25, 3) ∧ decode cX8_castShade 12 = .ok (.iload_n 1, 1) ∧ decode cX8_castShade 13 = .ok (.iconst 0, 1) ∧ decode cX8_castShade 14 = .ok (.iastore, 1) := by decide +kernel
theorem e_X8_castShade_1 : decode cX8_castShade 15 = .ok (.aload_n 0, 1) ∧ decode cX8_castShade 16 = .ok (.getfield 28, 3) ∧ decode cX8_castShade 19 = .ok (.iload_n 1, 1) ∧ decode cX8_castShade 20 = .ok (.iconst (-1), 1) ∧ decode cX8_castShade 21 = .ok (.iastore, 1) ∧ decode cX8_castShade 22 = .ok (.iinc 1 1, 3) ∧ decode cX8_castShade 25 = .ok (.goto (-23), 3) ∧ decode cX8_castShade 28 = .ok (.iconst 0, 1) ∧ decode cX8_castShade 29 = .ok (.istore_n 1, 1) ∧ decode cX8_castShade 30 = .ok (.iload_n 1, 1) := by decide +kernel
theorem e_X8_castShade_2 : decode cX8_castShade 31 = .ok (.aload_n 0, 1) ∧ decode cX8_castShade 32 = .ok (.getfield 31, 3) ∧ decode cX8_castShade 35 = .ok (.getfield 54, 3) ∧ decode cX8_castShade 38 = .ok (.if_icmp .ge 22, 3) ∧ decode cX8_castShade 41 = .ok (.aload_n 0, 1) ∧ decode cX8_castShade 42 = .ok (.iload_n 1, 1) ∧ decode cX8_castShade 43 = .ok (.invokevirtual 100, 3) ∧ decode cX8_castShade 46 = .ok (.ifCond .eq 8, 3) ∧ decode cX8_castShade 49 = .ok (.aload_n 0, 1) ∧ decode cX8_castShade 50 = .ok (.iload_n 1, 1) := by decide +kernel
theorem e_X8_castShade_3 : decode cX8_castShade 51 = .ok (.invokevirtual 104, 3) ∧ decode cX8_castShade 54 = .ok (.iinc 1 1, 3) ∧ decode cX8_castShade 57 = .ok (.goto (-27), 3) ∧ decode cX8_castShade 60 = .ok (.return_, 1) := by decide +kernel
abbrev E_X8_castShade_2 (G : Kg) (l1 : Int) (σ : Kmem) (Q : Int → Kmem → Prop) : Prop := Ex G WX M_X8_castShade 2 0 0 2 [(0, vA G 58), (1, vI l1)] [] σ Q
abbrev E_X8_castShade_30 (G : Kg) (l1 : Int) (σ : Kmem) (Q : Int → Kmem → Prop) : Prop := Ex G WX M_X8_castShade 2 0 0 30 [(0, vA G 58), (1, vI l1)] [] σ Q
theorem S_X8_castShade {G : Kg} {σ : Kmem} {Q : Int → Kmem → Prop} {c : Int} (hc : isC c) (h : E_X8_castShade_2 G 0 σ Q) : Run G WX M_X8_castShade 2 0 0 [vA G 58] σ Q := by
  refine Run.of (by decide +kernel) (by show (1 : Nat) ≤ 2; decide) ?_
  show Ex G WX M_X8_castShade 2 0 0 0 [(0, vA G 58)] [] σ Q
  refine R_iconst e_X8_castShade_0.1 ?_
  refine R_istore_n (ls2 := [(1, vI 0), (0, vA G 58)]) e_X8_castShade_0.2.1 (by decide) rfl ?_
  refine R_ls (ls2 := [(0, vA G 58), (1, vI 0)]) [1, 0] rfl ?_
  exact h
theorem S_X8_castShade_2 {G : Kg} {σ : Kmem} {Q : Int → Kmem → Prop} {c l1 : Int} (hc : isC c) (h : (rI l1) ∧ ((63 ≤ l1 → E_X8_castShade_30 G 0 σ Q) ∧ (l1 < 63 → (0 ≤ l1 ∧ l1 < 63) ∧ (0 ≤ l1 ∧ l1 < 63) ∧ E_X8_castShade_2 G (l1 + 1) (kup (kup σ 62 l1 0) 63 l1 (-1)) Q))) : E_X8_castShade_2 G l1 σ Q := by
  refine R_iload_n e_X8_castShade_0.2.2.1 1 rfl ?_
  refine R_bipush e_X8_castShade_0.2.2.2.1 (by decide) ?_
  obtain ⟨q1, h⟩ := h
  refine R_icmp_ge 28 e_X8_castShade_0.2.2.2.2.1 (by decide) q1 (by decide) (fun q => ?_) (fun q => ?_)
  · replace h := h.1 q
    refine R_iconst e_X8_castShade_1.2.2.2.2.2.2.2.1 ?_
    refine R_istore_n (ls2 := [(1, vI 0), (0, vA G 58)]) e_X8_castShade_1.2.2.2.2.2.2.2.2.1 (by decide) rfl ?_
    refine R_ls (ls2 := [(0, vA G 58), (1, vI 0)]) [1, 0] rfl ?_
    exact h
  · replace h := h.2 q
    refine R_aload_n e_X8_castShade_0.2.2.2.2.2.1 0 rfl ?_
    refine R_getA 8 5 62 e_X8_castShade_0.2.2.2.2.2.2.1 f_X8_25 kx_58 (fun _ _ => rfl) rx_58_5 (by decide) ?_
    refine R_iload_n e_X8_castShade_0.2.2.2.2.2.2.2.1 1 rfl ?_
    refine R_iconst e_X8_castShade_0.2.2.2.2.2.2.2.2.1 ?_
    obtain ⟨q2, h⟩ := h
    refine R_iast 63 WX_ok e_X8_castShade_0.2.2.2.2.2.2.2.2.2 kxa_62 q2 ?_
    refine R_aload_n e_X8_castShade_1.1 0 rfl ?_
    refine R_getA 8 6 63 e_X8_castShade_1.2.1 f_X8_28 kx_58 (fun _ _ => rfl) rx_58_6 (by decide) ?_
    refine R_iload_n e_X8_castShade_1.2.2.1 1 rfl ?_
    refine R_iconst e_X8_castShade_1.2.2.2.1 ?_
    obtain ⟨q3, h⟩ := h
    refine R_iast 63 WX_ok e_X8_castShade_1.2.2.2.2.1 kxa_63 q3 ?_
    refine R_iinc (ls2 := [(1, vI (l1 + 1)), (0, vA G 58)]) e_X8_castShade_1.2.2.2.2.2.1 1 rfl (by decide) rfl ?_
    refine R_goto 2 e_X8_castShade_1.2.2.2.2.2.2.1 (by decide) ?_
    refine R_ls (ls2 := [(0, vA G 58), (1, vI (l1 + 1))]) [1, 0] rfl ?_
    exact h
theorem S_X8_castShade_30 {G : Kg} {σ : Kmem} {Q : Int → Kmem → Prop} {c l1 : Int} (hc : isC c) (h : (σ 58 0 = c) ∧ (rI l1) ∧ (rI (σ c 5)) ∧ ((σ c 5 ≤ l1 → Q 0 σ) ∧ (l1 < σ c 5 → Run G WX M_X8_isUp 0 0 0 [vA G 58, vI l1] σ (fun r7 s8 => (rI r7) ∧ ((r7 = 0 → E_X8_castShade_30 G (l1 + 1) s8 Q) ∧ (r7 ≠ 0 → Run G WX M_X8_castShadeOf 1 0 0 [vA G 58, vI l1] s8 (fun r10 s11 => E_X8_castShade_30 G (l1 + 1) s11 Q))))))) : E_X8_castShade_30 G l1 σ Q := by
  refine R_iload_n e_X8_castShade_1.2.2.2.2.2.2.2.2.2 1 rfl ?_
  refine R_aload_n e_X8_castShade_2.1 0 rfl ?_
  obtain ⟨q4, h⟩ := h
  refine R_getA 8 0 c e_X8_castShade_2.2.1 f_X8_31 kx_58 (fun _ _ => rfl) ((sky_c _).trans q4) (isC_n hc) ?_
  refine R_getI 0 5 5 e_X8_castShade_2.2.2.1 f_X8_54 (kC_self hc) (fun _ _ => rfl) rfl ?_
  obtain ⟨q5, h⟩ := h
  obtain ⟨q6, h⟩ := h
  refine R_icmp_ge 60 e_X8_castShade_2.2.2.2.1 (by decide) q5 q6 (fun q => ?_) (fun q => ?_)
  · replace h := h.1 q
    exact R_return e_X8_castShade_3.2.2.2 rfl h
  · replace h := h.2 q
    refine R_aload_n e_X8_castShade_2.2.2.2.2.1 0 rfl ?_
    refine R_iload_n e_X8_castShade_2.2.2.2.2.2.1 1 rfl ?_
    refine R_callV (mc := 0) (ms := 0) (mc' := 0) (ms' := 0) (M' := M_X8_isUp) (d' := 0) (as := [vI l1]) (st := []) 8 1 e_X8_castShade_2.2.2.2.2.2.2.1 (kCVof m_X8_isUp l_X8_100) rfl (by decide) kx_58 (by decide) (by decide) rfl rfl (by show (0 : Nat) ≤ 8; decide) ?_
    refine Run.mono h (fun r7 s8 h => ?_)
    refine R_eqs (st2 := [vI r7]) rfl rfl ?_
    obtain ⟨q9, h⟩ := h
    refine R_if_eq 54 e_X8_castShade_2.2.2.2.2.2.2.2.1 (by decide) q9  (fun q => ?_) (fun q => ?_)
    · replace h := h.1 q
      refine R_iinc (ls2 := [(1, vI (l1 + 1)), (0, vA G 58)]) e_X8_castShade_3.2.1 1 rfl (by decide) rfl ?_
      refine R_goto 30 e_X8_castShade_3.2.2.1 (by decide) ?_
      refine R_ls (ls2 := [(0, vA G 58), (1, vI (l1 + 1))]) [1, 0] rfl ?_
      exact h
    · replace h := h.2 q
      refine R_aload_n e_X8_castShade_2.2.2.2.2.2.2.2.2.1 0 rfl ?_
      refine R_iload_n e_X8_castShade_2.2.2.2.2.2.2.2.2.2 1 rfl ?_
      refine R_callV (mc := 0) (ms := 0) (mc' := 0) (ms' := 0) (M' := M_X8_castShadeOf) (d' := 1) (as := [vI l1]) (st := []) 8 1 e_X8_castShade_3.1 (kCVof m_X8_castShadeOf l_X8_104) rfl (by decide) kx_58 (by decide) (by decide) rfl rfl (by show (0 : Nat) ≤ 8; decide) ?_
      refine Run.mono h (fun r10 s11 h => ?_)
      refine R_eqs (st2 := []) rfl rfl ?_
      refine R_iinc (ls2 := [(1, vI (l1 + 1)), (0, vA G 58)]) e_X8_castShade_3.2.1 1 rfl (by decide) rfl ?_
      refine R_goto 30 e_X8_castShade_3.2.2.1 (by decide) ?_
      refine R_ls (ls2 := [(0, vA G 58), (1, vI (l1 + 1))]) [1, 0] rfl ?_
      exact h
/-! KiteLand$Sky.doCross(II)Z -/
theorem e_X8_doCross_0 : decode cX8_doCross 0 = .ok (.aload_n 0, 1) ∧ decode cX8_doCross 1 = .ok (.getfield 9, 3) ∧ decode cX8_doCross 4 = .ok (.iload_n 1, 1) ∧ decode cX8_doCross 5 = .ok (.ishr, 1) ∧ decode cX8_doCross 6 = .ok (.aload_n 0, 1) ∧ decode cX8_doCross 7 = .ok (.getfield 9, 3) ∧ decode cX8_doCross 10 = .ok (.iload_n 2, 1) ∧ decode cX8_doCross 11 = .ok (.ishr, 1) ∧ decode cX8_doCross 12 = .ok (.iand, 1) ∧ decode cX8_doCross 13 = .ok (.iconst 1, 1) := by decide +kernel
theorem e_X8_doCross_1 : decode cX8_doCross 14 = .ok (.iand, 1) ∧ decode cX8_doCross 15 = .ok (.ifCond .ne 5, 3) ∧ decode cX8_doCross 18 = .ok (.iconst 0, 1) ∧ decode cX8_doCross 19 = .ok (.ireturn, 1) ∧ decode cX8_doCross 20 = .ok (.aload_n 0, 1) ∧ decode cX8_doCross 21 = .ok (.getfield 31, 3) ∧ decode cX8_doCross 24 = .ok (.getfield 57, 3) ∧ decode cX8_doCross 27 = .ok (.iload_n 1, 1) ∧ decode cX8_doCross 28 = .ok (.aaload, 1) ∧ decode cX8_doCross 29 = .ok (.astore_n 3, 1) := by decide +kernel
theorem e_X8_doCross_2 : decode cX8_doCross 30 = .ok (.aload_n 0, 1) ∧ decode cX8_doCross 31 = .ok (.getfield 31, 3) ∧ decode cX8_doCross 34 = .ok (.getfield 57, 3) ∧ decode cX8_doCross 37 = .ok (.iload_n 2, 1) ∧ decode cX8_doCross 38 = .ok (.aaload, 1) ∧ decode cX8_doCross 39 = .ok (.astore 4, 2) ∧ decode cX8_doCross 41 = .ok (.aload_n 0, 1) ∧ decode cX8_doCross 42 = .ok (.getfield 15, 3) ∧ decode cX8_doCross 45 = .ok (.iload_n 1, 1) ∧ decode cX8_doCross 46 = .ok (.iaload, 1) := by decide +kernel
theorem e_X8_doCross_3 : decode cX8_doCross 47 = .ok (.aload_n 3, 1) ∧ decode cX8_doCross 48 = .ok (.getfield 69, 3) ∧ decode cX8_doCross 51 = .ok (.isub, 1) ∧ decode cX8_doCross 52 = .ok (.istore 5, 2) ∧ decode cX8_doCross 54 = .ok (.aload_n 0, 1) ∧ decode cX8_doCross 55 = .ok (.getfield 19, 3) ∧ decode cX8_doCross 58 = .ok (.iload_n 1, 1) ∧ decode cX8_doCross 59 = .ok (.iaload, 1) ∧ decode cX8_doCross 60 = .ok (.aload_n 3, 1) ∧ decode cX8_doCross 61 = .ok (.getfield 75, 3) := by decide +kernel
theorem e_X8_doCross_4 : decode cX8_doCross 64 = .ok (.isub, 1) ∧ decode cX8_doCross 65 = .ok (.istore 6, 2) ∧ decode cX8_doCross 67 = .ok (.aload_n 0, 1) ∧ decode cX8_doCross 68 = .ok (.getfield 15, 3) ∧ decode cX8_doCross 71 = .ok (.iload_n 2, 1) ∧ decode cX8_doCross 72 = .ok (.iaload, 1) ∧ decode cX8_doCross 73 = .ok (.aload 4, 2) ∧ decode cX8_doCross 75 = .ok (.getfield 69, 3) ∧ decode cX8_doCross 78 = .ok (.isub, 1) ∧ decode cX8_doCross 79 = .ok (.istore 7, 2) := by decide +kernel
theorem e_X8_doCross_5 : decode cX8_doCross 81 = .ok (.aload_n 0, 1) ∧ decode cX8_doCross 82 = .ok (.getfield 19, 3) ∧ decode cX8_doCross 85 = .ok (.iload_n 2, 1) ∧ decode cX8_doCross 86 = .ok (.iaload, 1) ∧ decode cX8_doCross 87 = .ok (.aload 4, 2) ∧ decode cX8_doCross 89 = .ok (.getfield 75, 3) ∧ decode cX8_doCross 92 = .ok (.isub, 1) ∧ decode cX8_doCross 93 = .ok (.istore 8, 2) ∧ decode cX8_doCross 95 = .ok (.aload 4, 2) ∧ decode cX8_doCross 97 = .ok (.getfield 69, 3) := by decide +kernel
theorem e_X8_doCross_6 : decode cX8_doCross 100 = .ok (.aload_n 3, 1) ∧ decode cX8_doCross 101 = .ok (.getfield 69, 3) ∧ decode cX8_doCross 104 = .ok (.isub, 1) ∧ decode cX8_doCross 105 = .ok (.istore 9, 2) ∧ decode cX8_doCross 107 = .ok (.aload 4, 2) ∧ decode cX8_doCross 109 = .ok (.getfield 75, 3) ∧ decode cX8_doCross 112 = .ok (.aload_n 3, 1) ∧ decode cX8_doCross 113 = .ok (.getfield 75, 3) ∧ decode cX8_doCross 116 = .ok (.isub, 1) ∧ decode cX8_doCross 117 = .ok (.istore 10, 2) := by decide +kernel
theorem e_X8_doCross_7 : decode cX8_doCross 119 = .ok (.iload 5, 2) ∧ decode cX8_doCross 121 = .ok (.iload 8, 2) ∧ decode cX8_doCross 123 = .ok (.imul, 1) ∧ decode cX8_doCross 124 = .ok (.iload 6, 2) ∧ decode cX8_doCross 126 = .ok (.iload 7, 2) ∧ decode cX8_doCross 128 = .ok (.imul, 1) ∧ decode cX8_doCross 129 = .ok (.isub, 1) ∧ decode cX8_doCross 130 = .ok (.istore 11, 2) ∧ decode cX8_doCross 132 = .ok (.iload 5, 2) ∧ decode cX8_doCross 134 = .ok (.iload 10, 2) := by decide +kernel
theorem e_X8_doCross_8 : decode cX8_doCross 136 = .ok (.imul, 1) ∧ decode cX8_doCross 137 = .ok (.iload 6, 2) ∧ decode cX8_doCross 139 = .ok (.iload 9, 2) ∧ decode cX8_doCross 141 = .ok (.imul, 1) ∧ decode cX8_doCross 142 = .ok (.isub, 1) ∧ decode cX8_doCross 143 = .ok (.istore 12, 2) ∧ decode cX8_doCross 145 = .ok (.iload 7, 2) ∧ decode cX8_doCross 147 = .ok (.iload 10, 2) ∧ decode cX8_doCross 149 = .ok (.imul, 1) ∧ decode cX8_doCross 150 = .ok (.iload 8, 2) := by decide +kernel
theorem e_X8_doCross_9 : decode cX8_doCross 152 = .ok (.iload 9, 2) ∧ decode cX8_doCross 154 = .ok (.imul, 1) ∧ decode cX8_doCross 155 = .ok (.isub, 1) ∧ decode cX8_doCross 156 = .ok (.istore 13, 2) ∧ decode cX8_doCross 158 = .ok (.iload 12, 2) ∧ decode cX8_doCross 160 = .ok (.iload 12, 2) ∧ decode cX8_doCross 162 = .ok (.iload 11, 2) ∧ decode cX8_doCross 164 = .ok (.iadd, 1) ∧ decode cX8_doCross 165 = .ok (.imul, 1) ∧ decode cX8_doCross 166 = .ok (.ifCond .ge 18, 3) := by decide +kernel
theorem e_X8_doCross_10 : decode cX8_doCross 169 = .ok (.iload 13, 2) ∧ decode cX8_doCross 171 = .ok (.iload 13, 2) ∧ decode cX8_doCross 173 = .ok (.iload 11, 2) ∧ decode cX8_doCross 175 = .ok (.iadd, 1) ∧ decode cX8_doCross 176 = .ok (.imul, 1) ∧ decode cX8_doCross 177 = .ok (.ifCond .ge 7, 3) ∧ decode cX8_doCross 180 = .ok (.iconst 1, 1) ∧ decode cX8_doCross 181 = .ok (.goto 4, 3) ∧ decode cX8_doCross 184 = .ok (.iconst 0, 1) ∧ decode cX8_doCross 185 = .ok (.ireturn, 1) := by decide +kernel
theorem S_X8_doCross {G : Kg} {σ : Kmem} {Q : Int → Kmem → Prop} {l1 l2 c : Int} (hc : isC c) (h : (rI (kand (kand (kshr (σ 58 1) l1) (kshr (σ 58 1) l2)) 1)) ∧ ((kand (kand (kshr (σ 58 1) l1) (kshr (σ 58 1) l2)) 1 ≠ 0 → (σ 58 0 = c) ∧ (0 ≤ l1 ∧ l1 < 6) ∧ (σ 58 0 = c) ∧ (0 ≤ l2 ∧ l2 < 6) ∧ (0 ≤ l1 ∧ l1 < 6) ∧ (0 ≤ l1 ∧ l1 < 6) ∧ (0 ≤ l2 ∧ l2 < 6) ∧ (0 ≤ l2 ∧ l2 < 6) ∧ (rI (((((σ 59 l1) - (σ (c + 6 + l1) 1)) * ((σ (c + 6 + l2) 2) - (σ (c + 6 + l1) 2))) - (((σ 60 l1) - (σ (c + 6 + l1) 2)) * ((σ (c + 6 + l2) 1) - (σ (c + 6 + l1) 1)))) * (((((σ 59 l1) - (σ (c + 6 + l1) 1)) * ((σ (c + 6 + l2) 2) - (σ (c + 6 + l1) 2))) - (((σ 60 l1) - (σ (c + 6 + l1) 2)) * ((σ (c + 6 + l2) 1) - (σ (c + 6 + l1) 1)))) + ((((σ 59 l1) - (σ (c + 6 + l1) 1)) * ((σ 60 l2) - (σ (c + 6 + l2) 2))) - (((σ 60 l1) - (σ (c + 6 + l1) 2)) * ((σ 59 l2) - (σ (c + 6 + l2) 1))))))) ∧ ((0 ≤ ((((σ 59 l1) - (σ (c + 6 + l1) 1)) * ((σ (c + 6 + l2) 2) - (σ (c + 6 + l1) 2))) - (((σ 60 l1) - (σ (c + 6 + l1) 2)) * ((σ (c + 6 + l2) 1) - (σ (c + 6 + l1) 1)))) * (((((σ 59 l1) - (σ (c + 6 + l1) 1)) * ((σ (c + 6 + l2) 2) - (σ (c + 6 + l1) 2))) - (((σ 60 l1) - (σ (c + 6 + l1) 2)) * ((σ (c + 6 + l2) 1) - (σ (c + 6 + l1) 1)))) + ((((σ 59 l1) - (σ (c + 6 + l1) 1)) * ((σ 60 l2) - (σ (c + 6 + l2) 2))) - (((σ 60 l1) - (σ (c + 6 + l1) 2)) * ((σ 59 l2) - (σ (c + 6 + l2) 1))))) → Q 0 σ) ∧ (((((σ 59 l1) - (σ (c + 6 + l1) 1)) * ((σ (c + 6 + l2) 2) - (σ (c + 6 + l1) 2))) - (((σ 60 l1) - (σ (c + 6 + l1) 2)) * ((σ (c + 6 + l2) 1) - (σ (c + 6 + l1) 1)))) * (((((σ 59 l1) - (σ (c + 6 + l1) 1)) * ((σ (c + 6 + l2) 2) - (σ (c + 6 + l1) 2))) - (((σ 60 l1) - (σ (c + 6 + l1) 2)) * ((σ (c + 6 + l2) 1) - (σ (c + 6 + l1) 1)))) + ((((σ 59 l1) - (σ (c + 6 + l1) 1)) * ((σ 60 l2) - (σ (c + 6 + l2) 2))) - (((σ 60 l1) - (σ (c + 6 + l1) 2)) * ((σ 59 l2) - (σ (c + 6 + l2) 1))))) < 0 → (rI (((((σ 59 l2) - (σ (c + 6 + l2) 1)) * ((σ (c + 6 + l2) 2) - (σ (c + 6 + l1) 2))) - (((σ 60 l2) - (σ (c + 6 + l2) 2)) * ((σ (c + 6 + l2) 1) - (σ (c + 6 + l1) 1)))) * (((((σ 59 l2) - (σ (c + 6 + l2) 1)) * ((σ (c + 6 + l2) 2) - (σ (c + 6 + l1) 2))) - (((σ 60 l2) - (σ (c + 6 + l2) 2)) * ((σ (c + 6 + l2) 1) - (σ (c + 6 + l1) 1)))) + ((((σ 59 l1) - (σ (c + 6 + l1) 1)) * ((σ 60 l2) - (σ (c + 6 + l2) 2))) - (((σ 60 l1) - (σ (c + 6 + l1) 2)) * ((σ 59 l2) - (σ (c + 6 + l2) 1))))))) ∧ ((0 ≤ ((((σ 59 l2) - (σ (c + 6 + l2) 1)) * ((σ (c + 6 + l2) 2) - (σ (c + 6 + l1) 2))) - (((σ 60 l2) - (σ (c + 6 + l2) 2)) * ((σ (c + 6 + l2) 1) - (σ (c + 6 + l1) 1)))) * (((((σ 59 l2) - (σ (c + 6 + l2) 1)) * ((σ (c + 6 + l2) 2) - (σ (c + 6 + l1) 2))) - (((σ 60 l2) - (σ (c + 6 + l2) 2)) * ((σ (c + 6 + l2) 1) - (σ (c + 6 + l1) 1)))) + ((((σ 59 l1) - (σ (c + 6 + l1) 1)) * ((σ 60 l2) - (σ (c + 6 + l2) 2))) - (((σ 60 l1) - (σ (c + 6 + l1) 2)) * ((σ 59 l2) - (σ (c + 6 + l2) 1))))) → Q 0 σ) ∧ (((((σ 59 l2) - (σ (c + 6 + l2) 1)) * ((σ (c + 6 + l2) 2) - (σ (c + 6 + l1) 2))) - (((σ 60 l2) - (σ (c + 6 + l2) 2)) * ((σ (c + 6 + l2) 1) - (σ (c + 6 + l1) 1)))) * (((((σ 59 l2) - (σ (c + 6 + l2) 1)) * ((σ (c + 6 + l2) 2) - (σ (c + 6 + l1) 2))) - (((σ 60 l2) - (σ (c + 6 + l2) 2)) * ((σ (c + 6 + l2) 1) - (σ (c + 6 + l1) 1)))) + ((((σ 59 l1) - (σ (c + 6 + l1) 1)) * ((σ 60 l2) - (σ (c + 6 + l2) 2))) - (((σ 60 l1) - (σ (c + 6 + l1) 2)) * ((σ 59 l2) - (σ (c + 6 + l2) 1))))) < 0 → Q 1 σ))))) ∧ (kand (kand (kshr (σ 58 1) l1) (kshr (σ 58 1) l2)) 1 = 0 → Q 0 σ))) : Run G WX M_X8_doCross 0 0 0 [vA G 58, vI l1, vI l2] σ Q := by
  refine Run.of (by decide +kernel) (by show (3 : Nat) ≤ 14; decide) ?_
  show Ex G WX M_X8_doCross 0 0 0 0 [(0, vA G 58), (1, vI l1), (2, vI l2)] [] σ Q
  refine R_aload_n e_X8_doCross_0.1 0 rfl ?_
  refine R_getI 8 1 1 e_X8_doCross_0.2.1 f_X8_9 kx_58 (fun _ _ => rfl) rfl ?_
  refine R_iload_n e_X8_doCross_0.2.2.1 1 rfl ?_
  refine R_ishr e_X8_doCross_0.2.2.2.1 ?_
  refine R_aload_n e_X8_doCross_0.2.2.2.2.1 0 rfl ?_
  refine R_getI 8 1 1 e_X8_doCross_0.2.2.2.2.2.1 f_X8_9 kx_58 (fun _ _ => rfl) rfl ?_
  refine R_iload_n e_X8_doCross_0.2.2.2.2.2.2.1 2 rfl ?_
  refine R_ishr e_X8_doCross_0.2.2.2.2.2.2.2.1 ?_
  refine R_iand e_X8_doCross_0.2.2.2.2.2.2.2.2.1 ?_
  refine R_iconst e_X8_doCross_0.2.2.2.2.2.2.2.2.2 ?_
  refine R_iand e_X8_doCross_1.1 ?_
  obtain ⟨q1, h⟩ := h
  refine R_if_ne 20 e_X8_doCross_1.2.1 (by decide) q1  (fun q => ?_) (fun q => ?_)
  · replace h := h.1 q
    refine R_aload_n e_X8_doCross_1.2.2.2.2.1 0 rfl ?_
    obtain ⟨q2, h⟩ := h
    refine R_getA 8 0 c e_X8_doCross_1.2.2.2.2.2.1 f_X8_31 kx_58 (fun _ _ => rfl) ((sky_c _).trans q2) (isC_n hc) ?_
    refine R_getA 0 10 (c + 3) e_X8_doCross_1.2.2.2.2.2.2.1 f_X8_57 (kC_self hc) (fun _ _ => rfl) (kC_r10 hc) (kC_n3 hc) ?_
    refine R_iload_n e_X8_doCross_1.2.2.2.2.2.2.2.1 1 rfl ?_
    obtain ⟨q3, h⟩ := h
    refine R_aald 27 6 (c + 6 + l1) e_X8_doCross_1.2.2.2.2.2.2.2.2.1 (by decide) (kC_kites hc) q3 (kC_kiteAt hc q3) (kC_kiteN hc q3) ?_
    refine R_astore_n (ls2 := [(3, vA G (c + 6 + l1)), (0, vA G 58), (1, vI l1), (2, vI l2)]) e_X8_doCross_1.2.2.2.2.2.2.2.2.2 (by decide) rfl ?_
    refine R_aload_n e_X8_doCross_2.1 1 rfl ?_
    obtain ⟨q4, h⟩ := h
    refine R_getA 8 0 c e_X8_doCross_2.2.1 f_X8_31 kx_58 (fun _ _ => rfl) ((sky_c _).trans q4) (isC_n hc) ?_
    refine R_getA 0 10 (c + 3) e_X8_doCross_2.2.2.1 f_X8_57 (kC_self hc) (fun _ _ => rfl) (kC_r10 hc) (kC_n3 hc) ?_
    refine R_iload_n e_X8_doCross_2.2.2.2.1 3 rfl ?_
    obtain ⟨q5, h⟩ := h
    refine R_aald 27 6 (c + 6 + l2) e_X8_doCross_2.2.2.2.2.1 (by decide) (kC_kites hc) q5 (kC_kiteAt hc q5) (kC_kiteN hc q5) ?_
    refine R_astore (ls2 := [(4, vA G (c + 6 + l2)), (3, vA G (c + 6 + l1)), (0, vA G 58), (1, vI l1), (2, vI l2)]) e_X8_doCross_2.2.2.2.2.2.1 (by decide) rfl ?_
    refine R_aload_n e_X8_doCross_2.2.2.2.2.2.2.1 2 rfl ?_
    refine R_getA 8 2 59 e_X8_doCross_2.2.2.2.2.2.2.2.1 f_X8_15 kx_58 (fun _ _ => rfl) rx_58_2 (by decide) ?_
    refine R_iload_n e_X8_doCross_2.2.2.2.2.2.2.2.2.1 3 rfl ?_
    obtain ⟨q6, h⟩ := h
    refine R_iald 6 e_X8_doCross_2.2.2.2.2.2.2.2.2.2 kxa_59 q6 ?_
    refine R_aload_n e_X8_doCross_3.1 1 rfl ?_
    refine R_getI 3 1 1 e_X8_doCross_3.2.1 f_X8_69 (kC_kite hc q3) (fun _ _ => rfl) rfl ?_
    refine R_isub e_X8_doCross_3.2.2.1 ?_
    refine R_istore (ls2 := [(5, vI ((σ 59 l1) - (σ (c + 6 + l1) 1))), (4, vA G (c + 6 + l2)), (3, vA G (c + 6 + l1)), (0, vA G 58), (1, vI l1), (2, vI l2)]) e_X8_doCross_3.2.2.2.1 (by decide) rfl ?_
    refine R_aload_n e_X8_doCross_3.2.2.2.2.1 3 rfl ?_
    refine R_getA 8 3 60 e_X8_doCross_3.2.2.2.2.2.1 f_X8_19 kx_58 (fun _ _ => rfl) rx_58_3 (by decide) ?_
    refine R_iload_n e_X8_doCross_3.2.2.2.2.2.2.1 4 rfl ?_
    obtain ⟨q7, h⟩ := h
    refine R_iald 6 e_X8_doCross_3.2.2.2.2.2.2.2.1 kxa_60 q7 ?_
    refine R_aload_n e_X8_doCross_3.2.2.2.2.2.2.2.2.1 2 rfl ?_
    refine R_getI 3 2 2 e_X8_doCross_3.2.2.2.2.2.2.2.2.2 f_X8_75 (kC_kite hc q3) (fun _ _ => rfl) rfl ?_
    refine R_isub e_X8_doCross_4.1 ?_
    refine R_istore (ls2 := [(6, vI ((σ 60 l1) - (σ (c + 6 + l1) 2))), (5, vI ((σ 59 l1) - (σ (c + 6 + l1) 1))), (4, vA G (c + 6 + l2)), (3, vA G (c + 6 + l1)), (0, vA G 58), (1, vI l1), (2, vI l2)]) e_X8_doCross_4.2.1 (by decide) rfl ?_
    refine R_aload_n e_X8_doCross_4.2.2.1 4 rfl ?_
    refine R_getA 8 2 59 e_X8_doCross_4.2.2.2.1 f_X8_15 kx_58 (fun _ _ => rfl) rx_58_2 (by decide) ?_
    refine R_iload_n e_X8_doCross_4.2.2.2.2.1 6 rfl ?_
    obtain ⟨q8, h⟩ := h
    refine R_iald 6 e_X8_doCross_4.2.2.2.2.2.1 kxa_59 q8 ?_
    refine R_aload e_X8_doCross_4.2.2.2.2.2.2.1 2 rfl ?_
    refine R_getI 3 1 1 e_X8_doCross_4.2.2.2.2.2.2.2.1 f_X8_69 (kC_kite hc q5) (fun _ _ => rfl) rfl ?_
    refine R_isub e_X8_doCross_4.2.2.2.2.2.2.2.2.1 ?_
    refine R_istore (ls2 := [(7, vI ((σ 59 l2) - (σ (c + 6 + l2) 1))), (6, vI ((σ 60 l1) - (σ (c + 6 + l1) 2))), (5, vI ((σ 59 l1) - (σ (c + 6 + l1) 1))), (4, vA G (c + 6 + l2)), (3, vA G (c + 6 + l1)), (0, vA G 58), (1, vI l1), (2, vI l2)]) e_X8_doCross_4.2.2.2.2.2.2.2.2.2 (by decide) rfl ?_
    refine R_aload_n e_X8_doCross_5.1 5 rfl ?_
    refine R_getA 8 3 60 e_X8_doCross_5.2.1 f_X8_19 kx_58 (fun _ _ => rfl) rx_58_3 (by decide) ?_
    refine R_iload_n e_X8_doCross_5.2.2.1 7 rfl ?_
    obtain ⟨q9, h⟩ := h
    refine R_iald 6 e_X8_doCross_5.2.2.2.1 kxa_60 q9 ?_
    refine R_aload e_X8_doCross_5.2.2.2.2.1 3 rfl ?_
    refine R_getI 3 2 2 e_X8_doCross_5.2.2.2.2.2.1 f_X8_75 (kC_kite hc q5) (fun _ _ => rfl) rfl ?_
    refine R_isub e_X8_doCross_5.2.2.2.2.2.2.1 ?_
    refine R_istore (ls2 := [(8, vI ((σ 60 l2) - (σ (c + 6 + l2) 2))), (7, vI ((σ 59 l2) - (σ (c + 6 + l2) 1))), (6, vI ((σ 60 l1) - (σ (c + 6 + l1) 2))), (5, vI ((σ 59 l1) - (σ (c + 6 + l1) 1))), (4, vA G (c + 6 + l2)), (3, vA G (c + 6 + l1)), (0, vA G 58), (1, vI l1), (2, vI l2)]) e_X8_doCross_5.2.2.2.2.2.2.2.1 (by decide) rfl ?_
    refine R_aload e_X8_doCross_5.2.2.2.2.2.2.2.2.1 4 rfl ?_
    refine R_getI 3 1 1 e_X8_doCross_5.2.2.2.2.2.2.2.2.2 f_X8_69 (kC_kite hc q5) (fun _ _ => rfl) rfl ?_
    refine R_aload_n e_X8_doCross_6.1 5 rfl ?_
    refine R_getI 3 1 1 e_X8_doCross_6.2.1 f_X8_69 (kC_kite hc q3) (fun _ _ => rfl) rfl ?_
    refine R_isub e_X8_doCross_6.2.2.1 ?_
    refine R_istore (ls2 := [(9, vI ((σ (c + 6 + l2) 1) - (σ (c + 6 + l1) 1))), (8, vI ((σ 60 l2) - (σ (c + 6 + l2) 2))), (7, vI ((σ 59 l2) - (σ (c + 6 + l2) 1))), (6, vI ((σ 60 l1) - (σ (c + 6 + l1) 2))), (5, vI ((σ 59 l1) - (σ (c + 6 + l1) 1))), (4, vA G (c + 6 + l2)), (3, vA G (c + 6 + l1)), (0, vA G 58), (1, vI l1), (2, vI l2)]) e_X8_doCross_6.2.2.2.1 (by decide) rfl ?_
    refine R_aload e_X8_doCross_6.2.2.2.2.1 5 rfl ?_
    refine R_getI 3 2 2 e_X8_doCross_6.2.2.2.2.2.1 f_X8_75 (kC_kite hc q5) (fun _ _ => rfl) rfl ?_
    refine R_aload_n e_X8_doCross_6.2.2.2.2.2.2.1 6 rfl ?_
    refine R_getI 3 2 2 e_X8_doCross_6.2.2.2.2.2.2.2.1 f_X8_75 (kC_kite hc q3) (fun _ _ => rfl) rfl ?_
    refine R_isub e_X8_doCross_6.2.2.2.2.2.2.2.2.1 ?_
    refine R_istore (ls2 := [(10, vI ((σ (c + 6 + l2) 2) - (σ (c + 6 + l1) 2))), (9, vI ((σ (c + 6 + l2) 1) - (σ (c + 6 + l1) 1))), (8, vI ((σ 60 l2) - (σ (c + 6 + l2) 2))), (7, vI ((σ 59 l2) - (σ (c + 6 + l2) 1))), (6, vI ((σ 60 l1) - (σ (c + 6 + l1) 2))), (5, vI ((σ 59 l1) - (σ (c + 6 + l1) 1))), (4, vA G (c + 6 + l2)), (3, vA G (c + 6 + l1)), (0, vA G 58), (1, vI l1), (2, vI l2)]) e_X8_doCross_6.2.2.2.2.2.2.2.2.2 (by decide) rfl ?_
    refine R_iload e_X8_doCross_7.1 5 rfl ?_
    refine R_iload e_X8_doCross_7.2.1 2 rfl ?_
    refine R_imul e_X8_doCross_7.2.2.1 ?_
    refine R_iload e_X8_doCross_7.2.2.2.1 4 rfl ?_
    refine R_iload e_X8_doCross_7.2.2.2.2.1 3 rfl ?_
    refine R_imul e_X8_doCross_7.2.2.2.2.2.1 ?_
    refine R_isub e_X8_doCross_7.2.2.2.2.2.2.1 ?_
    refine R_istore (ls2 := [(11, vI ((((σ 59 l1) - (σ (c + 6 + l1) 1)) * ((σ 60 l2) - (σ (c + 6 + l2) 2))) - (((σ 60 l1) - (σ (c + 6 + l1) 2)) * ((σ 59 l2) - (σ (c + 6 + l2) 1))))), (10, vI ((σ (c + 6 + l2) 2) - (σ (c + 6 + l1) 2))), (9, vI ((σ (c + 6 + l2) 1) - (σ (c + 6 + l1) 1))), (8, vI ((σ 60 l2) - (σ (c + 6 + l2) 2))), (7, vI ((σ 59 l2) - (σ (c + 6 + l2) 1))), (6, vI ((σ 60 l1) - (σ (c + 6 + l1) 2))), (5, vI ((σ 59 l1) - (σ (c + 6 + l1) 1))), (4, vA G (c + 6 + l2)), (3, vA G (c + 6 + l1)), (0, vA G 58), (1, vI l1), (2, vI l2)]) e_X8_doCross_7.2.2.2.2.2.2.2.1 (by decide) rfl ?_
    refine R_iload e_X8_doCross_7.2.2.2.2.2.2.2.2.1 6 rfl ?_
    refine R_iload e_X8_doCross_7.2.2.2.2.2.2.2.2.2 1 rfl ?_
    refine R_imul e_X8_doCross_8.1 ?_
    refine R_iload e_X8_doCross_8.2.1 5 rfl ?_
    refine R_iload e_X8_doCross_8.2.2.1 2 rfl ?_
    refine R_imul e_X8_doCross_8.2.2.2.1 ?_
    refine R_isub e_X8_doCross_8.2.2.2.2.1 ?_
    refine R_istore (ls2 := [(12, vI ((((σ 59 l1) - (σ (c + 6 + l1) 1)) * ((σ (c + 6 + l2) 2) - (σ (c + 6 + l1) 2))) - (((σ 60 l1) - (σ (c + 6 + l1) 2)) * ((σ (c + 6 + l2) 1) - (σ (c + 6 + l1) 1))))), (11, vI ((((σ 59 l1) - (σ (c + 6 + l1) 1)) * ((σ 60 l2) - (σ (c + 6 + l2) 2))) - (((σ 60 l1) - (σ (c + 6 + l1) 2)) * ((σ 59 l2) - (σ (c + 6 + l2) 1))))), (10, vI ((σ (c + 6 + l2) 2) - (σ (c + 6 + l1) 2))), (9, vI ((σ (c + 6 + l2) 1) - (σ (c + 6 + l1) 1))), (8, vI ((σ 60 l2) - (σ (c + 6 + l2) 2))), (7, vI ((σ 59 l2) - (σ (c + 6 + l2) 1))), (6, vI ((σ 60 l1) - (σ (c + 6 + l1) 2))), (5, vI ((σ 59 l1) - (σ (c + 6 + l1) 1))), (4, vA G (c + 6 + l2)), (3, vA G (c + 6 + l1)), (0, vA G 58), (1, vI l1), (2, vI l2)]) e_X8_doCross_8.2.2.2.2.2.1 (by decide) rfl ?_
    refine R_iload e_X8_doCross_8.2.2.2.2.2.2.1 5 rfl ?_
    refine R_iload e_X8_doCross_8.2.2.2.2.2.2.2.1 2 rfl ?_
    refine R_imul e_X8_doCross_8.2.2.2.2.2.2.2.2.1 ?_
    refine R_iload e_X8_doCross_8.2.2.2.2.2.2.2.2.2 4 rfl ?_
    refine R_iload e_X8_doCross_9.1 3 rfl ?_
    refine R_imul e_X8_doCross_9.2.1 ?_
    refine R_isub e_X8_doCross_9.2.2.1 ?_
    refine R_istore (ls2 := [(13, vI ((((σ 59 l2) - (σ (c + 6 + l2) 1)) * ((σ (c + 6 + l2) 2) - (σ (c + 6 + l1) 2))) - (((σ 60 l2) - (σ (c + 6 + l2) 2)) * ((σ (c + 6 + l2) 1) - (σ (c + 6 + l1) 1))))), (12, vI ((((σ 59 l1) - (σ (c + 6 + l1) 1)) * ((σ (c + 6 + l2) 2) - (σ (c + 6 + l1) 2))) - (((σ 60 l1) - (σ (c + 6 + l1) 2)) * ((σ (c + 6 + l2) 1) - (σ (c + 6 + l1) 1))))), (11, vI ((((σ 59 l1) - (σ (c + 6 + l1) 1)) * ((σ 60 l2) - (σ (c + 6 + l2) 2))) - (((σ 60 l1) - (σ (c + 6 + l1) 2)) * ((σ 59 l2) - (σ (c + 6 + l2) 1))))), (10, vI ((σ (c + 6 + l2) 2) - (σ (c + 6 + l1) 2))), (9, vI ((σ (c + 6 + l2) 1) - (σ (c + 6 + l1) 1))), (8, vI ((σ 60 l2) - (σ (c + 6 + l2) 2))), (7, vI ((σ 59 l2) - (σ (c + 6 + l2) 1))), (6, vI ((σ 60 l1) - (σ (c + 6 + l1) 2))), (5, vI ((σ 59 l1) - (σ (c + 6 + l1) 1))), (4, vA G (c + 6 + l2)), (3, vA G (c + 6 + l1)), (0, vA G 58), (1, vI l1), (2, vI l2)]) e_X8_doCross_9.2.2.2.1 (by decide) rfl ?_
    refine R_iload e_X8_doCross_9.2.2.2.2.1 1 rfl ?_
    refine R_iload e_X8_doCross_9.2.2.2.2.2.1 1 rfl ?_
    refine R_iload e_X8_doCross_9.2.2.2.2.2.2.1 2 rfl ?_
    refine R_iadd e_X8_doCross_9.2.2.2.2.2.2.2.1 ?_
    refine R_imul e_X8_doCross_9.2.2.2.2.2.2.2.2.1 ?_
    obtain ⟨q10, h⟩ := h
    refine R_if_ge 184 e_X8_doCross_9.2.2.2.2.2.2.2.2.2 (by decide) q10  (fun q => ?_) (fun q => ?_)
    · replace h := h.1 q
      refine R_iconst e_X8_doCross_10.2.2.2.2.2.2.2.2.1 ?_
      exact R_zreturn e_X8_doCross_10.2.2.2.2.2.2.2.2.2 rfl (Or.inl rfl) h
    · replace h := h.2 q
      refine R_iload e_X8_doCross_10.1 0 rfl ?_
      refine R_iload e_X8_doCross_10.2.1 0 rfl ?_
      refine R_iload e_X8_doCross_10.2.2.1 2 rfl ?_
      refine R_iadd e_X8_doCross_10.2.2.2.1 ?_
      refine R_imul e_X8_doCross_10.2.2.2.2.1 ?_
      obtain ⟨q11, h⟩ := h
      refine R_if_ge 184 e_X8_doCross_10.2.2.2.2.2.1 (by decide) q11  (fun q => ?_) (fun q => ?_)
      · replace h := h.1 q
        refine R_iconst e_X8_doCross_10.2.2.2.2.2.2.2.2.1 ?_
        exact R_zreturn e_X8_doCross_10.2.2.2.2.2.2.2.2.2 rfl (Or.inl rfl) h
      · replace h := h.2 q
        refine R_iconst e_X8_doCross_10.2.2.2.2.2.2.1 ?_
        refine R_goto 185 e_X8_doCross_10.2.2.2.2.2.2.2.1 (by decide) ?_
        exact R_zreturn e_X8_doCross_10.2.2.2.2.2.2.2.2.2 rfl (Or.inr rfl) h
  · replace h := h.2 q
    refine R_iconst e_X8_doCross_1.2.2.1 ?_
    exact R_zreturn e_X8_doCross_1.2.2.2.1 rfl (Or.inl rfl) h
/-! KiteLand$Sky.shorterOf(II)I -/
theorem e_X8_shorterOf_0 : decode cX8_shorterOf 0 = .ok (.aload_n 0, 1) ∧ decode cX8_shorterOf 1 = .ok (.getfield 31, 3) ∧ decode cX8_shorterOf 4 = .ok (.getfield 57, 3) ∧ decode cX8_shorterOf 7 = .ok (.iload_n 1, 1) ∧ decode cX8_shorterOf 8 = .ok (.aaload, 1) ∧ decode cX8_shorterOf 9 = .ok (.getfield 61, 3) ∧ decode cX8_shorterOf 12 = .ok (.aload_n 0, 1) ∧ decode cX8_shorterOf 13 = .ok (.getfield 31, 3) ∧ decode cX8_shorterOf 16 = .ok (.getfield 57, 3) ∧ decode cX8_shorterOf 19 = .ok (.iload_n 2, 1) := by decide +kernel
theorem e_X8_shorterOf_1 : decode cX8_shorterOf 20 = .ok (.aaload, 1) ∧ decode cX8_shorterOf 21 = .ok (.getfield 61, 3) ∧ decode cX8_shorterOf 24 = .ok (.isub, 1) ∧ decode cX8_shorterOf 25 = .ok (.istore_n 3, 1) ∧ decode cX8_shorterOf 26 = .ok (.iload_n 3, 1) ∧ decode cX8_shorterOf 27 = .ok (.ifCond .ne 11, 3) ∧ decode cX8_shorterOf 30 = .ok (.iconst 1, 1) ∧ decode cX8_shorterOf 31 = .ok (.iload_n 1, 1) ∧ decode cX8_shorterOf 32 = .ok (.ishl, 1) ∧ decode cX8_shorterOf 33 = .ok (.iconst 1, 1) := by decide +kernel
theorem e_X8_shorterOf_2 : decode cX8_shorterOf 34 = .ok (.iload_n 2, 1) ∧ decode cX8_shorterOf 35 = .ok (.ishl, 1) ∧ decode cX8_shorterOf 36 = .ok (.ior, 1) ∧ decode cX8_shorterOf 37 = .ok (.ireturn, 1) ∧ decode cX8_shorterOf 38 = .ok (.iload_n 3, 1) ∧ decode cX8_shorterOf 39 = .ok (.ifCond .ge 9, 3) ∧ decode cX8_shorterOf 42 = .ok (.iconst 1, 1) ∧ decode cX8_shorterOf 43 = .ok (.iload_n 1, 1) ∧ decode cX8_shorterOf 44 = .ok (.ishl, 1) ∧ decode cX8_shorterOf 45 = .ok (.goto 6, 3) := by decide +kernel
theorem e_X8_shorterOf_3 : decode cX8_shorterOf 48 = .ok (.iconst 1, 1) ∧ decode cX8_shorterOf 49 = .ok (.iload_n 2, 1) ∧ decode cX8_shorterOf 50 = .ok (.ishl, 1) ∧ decode cX8_shorterOf 51 = .ok (.ireturn, 1) := by decide +kernel
theorem S_X8_shorterOf {G : Kg} {σ : Kmem} {Q : Int → Kmem → Prop} {l1 l2 c : Int} (hc : isC c) (h : (σ 58 0 = c) ∧ (0 ≤ l1 ∧ l1 < 6) ∧ (σ 58 0 = c) ∧ (0 ≤ l2 ∧ l2 < 6) ∧ (rI ((σ (c + 6 + l1) 4) - (σ (c + 6 + l2) 4))) ∧ (((σ (c + 6 + l1) 4) - (σ (c + 6 + l2) 4) ≠ 0 → ((0 ≤ (σ (c + 6 + l1) 4) - (σ (c + 6 + l2) 4) → Q (kshl 1 l2) σ) ∧ ((σ (c + 6 + l1) 4) - (σ (c + 6 + l2) 4) < 0 → Q (kshl 1 l1) σ))) ∧ ((σ (c + 6 + l1) 4) - (σ (c + 6 + l2) 4) = 0 → Q (kor (kshl 1 l1) (kshl 1 l2)) σ))) : Run G WX M_X8_shorterOf 0 0 0 [vA G 58, vI l1, vI l2] σ Q := by
  refine Run.of (by decide +kernel) (by show (3 : Nat) ≤ 4; decide) ?_
  show Ex G WX M_X8_shorterOf 0 0 0 0 [(0, vA G 58), (1, vI l1), (2, vI l2)] [] σ Q
  refine R_aload_n e_X8_shorterOf_0.1 0 rfl ?_
  obtain ⟨q1, h⟩ := h
  refine R_getA 8 0 c e_X8_shorterOf_0.2.1 f_X8_31 kx_58 (fun _ _ => rfl) ((sky_c _).trans q1) (isC_n hc) ?_
  refine R_getA 0 10 (c + 3) e_X8_shorterOf_0.2.2.1 f_X8_57 (kC_self hc) (fun _ _ => rfl) (kC_r10 hc) (kC_n3 hc) ?_
  refine R_iload_n e_X8_shorterOf_0.2.2.2.1 1 rfl ?_
  obtain ⟨q2, h⟩ := h
  refine R_aald 27 6 (c + 6 + l1) e_X8_shorterOf_0.2.2.2.2.1 (by decide) (kC_kites hc) q2 (kC_kiteAt hc q2) (kC_kiteN hc q2) ?_
  refine R_getI 3 4 4 e_X8_shorterOf_0.2.2.2.2.2.1 f_X8_61 (kC_kite hc q2) (fun _ _ => rfl) rfl ?_
  refine R_aload_n e_X8_shorterOf_0.2.2.2.2.2.2.1 0 rfl ?_
  obtain ⟨q3, h⟩ := h
  refine R_getA 8 0 c e_X8_shorterOf_0.2.2.2.2.2.2.2.1 f_X8_31 kx_58 (fun _ _ => rfl) ((sky_c _).trans q3) (isC_n hc) ?_
  refine R_getA 0 10 (c + 3) e_X8_shorterOf_0.2.2.2.2.2.2.2.2.1 f_X8_57 (kC_self hc) (fun _ _ => rfl) (kC_r10 hc) (kC_n3 hc) ?_
  refine R_iload_n e_X8_shorterOf_0.2.2.2.2.2.2.2.2.2 2 rfl ?_
  obtain ⟨q4, h⟩ := h
  refine R_aald 27 6 (c + 6 + l2) e_X8_shorterOf_1.1 (by decide) (kC_kites hc) q4 (kC_kiteAt hc q4) (kC_kiteN hc q4) ?_
  refine R_getI 3 4 4 e_X8_shorterOf_1.2.1 f_X8_61 (kC_kite hc q4) (fun _ _ => rfl) rfl ?_
  refine R_isub e_X8_shorterOf_1.2.2.1 ?_
  refine R_istore_n (ls2 := [(3, vI ((σ (c + 6 + l1) 4) - (σ (c + 6 + l2) 4))), (0, vA G 58), (1, vI l1), (2, vI l2)]) e_X8_shorterOf_1.2.2.2.1 (by decide) rfl ?_
  refine R_iload_n e_X8_shorterOf_1.2.2.2.2.1 0 rfl ?_
  obtain ⟨q5, h⟩ := h
  refine R_if_ne 38 e_X8_shorterOf_1.2.2.2.2.2.1 (by decide) q5  (fun q => ?_) (fun q => ?_)
  · replace h := h.1 q
    refine R_iload_n e_X8_shorterOf_2.2.2.2.2.1 0 rfl ?_
    refine R_if_ge 48 e_X8_shorterOf_2.2.2.2.2.2.1 (by decide) q5  (fun q => ?_) (fun q => ?_)
    · replace h := h.1 q
      refine R_iconst e_X8_shorterOf_3.1 ?_
      refine R_iload_n e_X8_shorterOf_3.2.1 3 rfl ?_
      refine R_ishl e_X8_shorterOf_3.2.2.1 ?_
      exact R_ireturn e_X8_shorterOf_3.2.2.2 rfl h
    · replace h := h.2 q
      refine R_iconst e_X8_shorterOf_2.2.2.2.2.2.2.1 ?_
      refine R_iload_n e_X8_shorterOf_2.2.2.2.2.2.2.2.1 2 rfl ?_
      refine R_ishl e_X8_shorterOf_2.2.2.2.2.2.2.2.2.1 ?_
      refine R_goto 51 e_X8_shorterOf_2.2.2.2.2.2.2.2.2.2 (by decide) ?_
      exact R_ireturn e_X8_shorterOf_3.2.2.2 rfl h
  · replace h := h.2 q
    refine R_iconst e_X8_shorterOf_1.2.2.2.2.2.2.1 ?_
    refine R_iload_n e_X8_shorterOf_1.2.2.2.2.2.2.2.1 2 rfl ?_
    refine R_ishl e_X8_shorterOf_1.2.2.2.2.2.2.2.2.1 ?_
    refine R_iconst e_X8_shorterOf_1.2.2.2.2.2.2.2.2.2 ?_
    refine R_iload_n e_X8_shorterOf_2.1 3 rfl ?_
    refine R_ishl e_X8_shorterOf_2.2.1 ?_
    refine R_ior e_X8_shorterOf_2.2.2.1 ?_
    exact R_ireturn e_X8_shorterOf_2.2.2.2.1 rfl h
/-! KiteLand$Sky.crossedSet()I -/
theorem e_X8_crossedSet_0 : decode cX8_crossedSet 0 = .ok (.iconst 0, 1) ∧ decode cX8_crossedSet 1 = .ok (.istore_n 1, 1) ∧ decode cX8_crossedSet 2 = .ok (.iconst 0, 1) ∧ decode cX8_crossedSet 3 = .ok (.istore_n 2, 1) ∧ decode cX8_crossedSet 4 = .ok (.iload_n 2, 1) ∧ decode cX8_crossedSet 5 = .ok (.aload_n 0, 1) ∧ decode cX8_crossedSet 6 = .ok (.getfield 31, 3) ∧ decode cX8_crossedSet 9 = .ok (.getfield 54, 3) ∧ decode cX8_crossedSet 12 = .ok (.if_icmp .ge 48, 3) ∧ decode cX8_crossedSet 15 = .ok (.iload_n 2, 1) := by decide +kernel
theorem e_X8_crossedSet_1 : decode cX8_crossedSet 16 = .ok (.iconst 1, 1) ∧ decode cX8_crossedSet 17 = .ok (.iadd, 1) ∧ decode cX8_crossedSet 18 = .ok (.istore_n 3, 1) ∧ decode cX8_crossedSet 19 = .ok (.iload_n 3, 1) ∧ decode cX8_crossedSet 20 = .ok (.aload_n 0, 1) ∧ decode cX8_crossedSet 21 = .ok (.getfield 31, 3) ∧ decode cX8_crossedSet 24 = .ok (.getfield 54, 3) ∧ decode cX8_crossedSet 27 = .ok (.if_icmp .ge 27, 3) ∧ decode cX8_crossedSet 30 = .ok (.aload_n 0, 1) ∧ decode cX8_crossedSet 31 = .ok (.iload_n 2, 1) := by decide +kernel
theorem e_X8_crossedSet_2 : decode cX8_crossedSet 32 = .ok (.iload_n 3, 1) ∧ decode cX8_crossedSet 33 = .ok (.invokevirtual 139, 3) ∧ decode cX8_crossedSet 36 = .ok (.ifCond .eq 12, 3) ∧ decode cX8_crossedSet 39 = .ok (.iload_n 1, 1) ∧ decode cX8_crossedSet 40 = .ok (.aload_n 0, 1) ∧ decode cX8_crossedSet 41 = .ok (.iload_n 2, 1) ∧ decode cX8_crossedSet 42 = .ok (.iload_n 3, 1) ∧ decode cX8_crossedSet 43 = .ok (.invokevirtual 143, 3) ∧ decode cX8_crossedSet 46 = .ok (.ior, 1) ∧ decode cX8_crossedSet 47 = .ok (.istore_n 1, 1) := by decide +kernel
theorem e_X8_crossedSet_3 : decode cX8_crossedSet 48 = .ok (.iinc 3 1, 3) ∧ decode cX8_crossedSet 51 = .ok (.goto (-32), 3) ∧ decode cX8_crossedSet 54 = .ok (.iinc 2 1, 3) ∧ decode cX8_crossedSet 57 = .ok (.goto (-53), 3) ∧ decode cX8_crossedSet 60 = .ok (.iload_n 1, 1) ∧ decode cX8_crossedSet 61 = .ok (.ireturn, 1) := by decide +kernel
abbrev E_X8_crossedSet_4 (G : Kg) (l1 l2 : Int) (σ : Kmem) (Q : Int → Kmem → Prop) : Prop := Ex G WX M_X8_crossedSet 1 0 0 4 [(0, vA G 58), (1, vI l1), (2, vI l2)] [] σ Q
abbrev E_X8_crossedSet_19 (G : Kg) (l1 l2 l3 : Int) (σ : Kmem) (Q : Int → Kmem → Prop) : Prop := Ex G WX M_X8_crossedSet 1 0 0 19 [(0, vA G 58), (1, vI l1), (2, vI l2), (3, vI l3)] [] σ Q
theorem S_X8_crossedSet {G : Kg} {σ : Kmem} {Q : Int → Kmem → Prop} {c : Int} (hc : isC c) (h : E_X8_crossedSet_4 G 0 0 σ Q) : Run G WX M_X8_crossedSet 1 0 0 [vA G 58] σ Q := by
  refine Run.of (by decide +kernel) (by show (1 : Nat) ≤ 4; decide) ?_
  show Ex G WX M_X8_crossedSet 1 0 0 0 [(0, vA G 58)] [] σ Q
  refine R_iconst e_X8_crossedSet_0.1 ?_
  refine R_istore_n (ls2 := [(1, vI 0), (0, vA G 58)]) e_X8_crossedSet_0.2.1 (by decide) rfl ?_
  refine R_iconst e_X8_crossedSet_0.2.2.1 ?_
  refine R_istore_n (ls2 := [(2, vI 0), (1, vI 0), (0, vA G 58)]) e_X8_crossedSet_0.2.2.2.1 (by decide) rfl ?_
  refine R_ls (ls2 := [(0, vA G 58), (1, vI 0), (2, vI 0)]) [2, 1, 0] rfl ?_
  exact h
theorem S_X8_crossedSet_4 {G : Kg} {σ : Kmem} {Q : Int → Kmem → Prop} {c l1 l2 : Int} (hc : isC c) (h : (σ 58 0 = c) ∧ (rI l2) ∧ (rI (σ c 5)) ∧ ((σ c 5 ≤ l2 → Q l1 σ) ∧ (l2 < σ c 5 → E_X8_crossedSet_19 G l1 l2 (l2 + 1) σ Q))) : E_X8_crossedSet_4 G l1 l2 σ Q := by
  refine R_iload_n e_X8_crossedSet_0.2.2.2.2.1 2 rfl ?_
  refine R_aload_n e_X8_crossedSet_0.2.2.2.2.2.1 0 rfl ?_
  obtain ⟨q1, h⟩ := h
  refine R_getA 8 0 c e_X8_crossedSet_0.2.2.2.2.2.2.1 f_X8_31 kx_58 (fun _ _ => rfl) ((sky_c _).trans q1) (isC_n hc) ?_
  refine R_getI 0 5 5 e_X8_crossedSet_0.2.2.2.2.2.2.2.1 f_X8_54 (kC_self hc) (fun _ _ => rfl) rfl ?_
  obtain ⟨q2, h⟩ := h
  obtain ⟨q3, h⟩ := h
  refine R_icmp_ge 60 e_X8_crossedSet_0.2.2.2.2.2.2.2.2.1 (by decide) q2 q3 (fun q => ?_) (fun q => ?_)
  · replace h := h.1 q
    refine R_iload_n e_X8_crossedSet_3.2.2.2.2.1 1 rfl ?_
    exact R_ireturn e_X8_crossedSet_3.2.2.2.2.2 rfl h
  · replace h := h.2 q
    refine R_iload_n e_X8_crossedSet_0.2.2.2.2.2.2.2.2.2 2 rfl ?_
    refine R_iconst e_X8_crossedSet_1.1 ?_
    refine R_iadd e_X8_crossedSet_1.2.1 ?_
    refine R_istore_n (ls2 := [(3, vI (l2 + 1)), (0, vA G 58), (1, vI l1), (2, vI l2)]) e_X8_crossedSet_1.2.2.1 (by decide) rfl ?_
    refine R_ls (ls2 := [(0, vA G 58), (1, vI l1), (2, vI l2), (3, vI (l2 + 1))]) [1, 2, 3, 0] rfl ?_
    exact h
theorem S_X8_crossedSet_19 {G : Kg} {σ : Kmem} {Q : Int → Kmem → Prop} {c l1 l2 l3 : Int} (hc : isC c) (h : (σ 58 0 = c) ∧ (rI l3) ∧ (rI (σ c 5)) ∧ ((σ c 5 ≤ l3 → E_X8_crossedSet_4 G l1 (l2 + 1) σ Q) ∧ (l3 < σ c 5 → Run G WX M_X8_doCross 0 0 0 [vA G 58, vI l2, vI l3] σ (fun r7 s8 => (rI r7) ∧ ((r7 = 0 → E_X8_crossedSet_19 G l1 l2 (l3 + 1) s8 Q) ∧ (r7 ≠ 0 → Run G WX M_X8_shorterOf 0 0 0 [vA G 58, vI l2, vI l3] s8 (fun r10 s11 => E_X8_crossedSet_19 G (kor l1 r10) l2 (l3 + 1) s11 Q))))))) : E_X8_crossedSet_19 G l1 l2 l3 σ Q := by
  refine R_iload_n e_X8_crossedSet_1.2.2.2.1 3 rfl ?_
  refine R_aload_n e_X8_crossedSet_1.2.2.2.2.1 0 rfl ?_
  obtain ⟨q4, h⟩ := h
  refine R_getA 8 0 c e_X8_crossedSet_1.2.2.2.2.2.1 f_X8_31 kx_58 (fun _ _ => rfl) ((sky_c _).trans q4) (isC_n hc) ?_
  refine R_getI 0 5 5 e_X8_crossedSet_1.2.2.2.2.2.2.1 f_X8_54 (kC_self hc) (fun _ _ => rfl) rfl ?_
  obtain ⟨q5, h⟩ := h
  obtain ⟨q6, h⟩ := h
  refine R_icmp_ge 54 e_X8_crossedSet_1.2.2.2.2.2.2.2.1 (by decide) q5 q6 (fun q => ?_) (fun q => ?_)
  · replace h := h.1 q
    refine R_iinc (ls2 := [(2, vI (l2 + 1)), (0, vA G 58), (1, vI l1), (3, vI l3)]) e_X8_crossedSet_3.2.2.1 2 rfl (by decide) rfl ?_
    refine R_goto 4 e_X8_crossedSet_3.2.2.2.1 (by decide) ?_
    refine R_ls (ls2 := [(0, vA G 58), (1, vI l1), (2, vI (l2 + 1))]) [1, 2, 0] rfl ?_
    exact h
  · replace h := h.2 q
    refine R_aload_n e_X8_crossedSet_1.2.2.2.2.2.2.2.2.1 0 rfl ?_
    refine R_iload_n e_X8_crossedSet_1.2.2.2.2.2.2.2.2.2 2 rfl ?_
    refine R_iload_n e_X8_crossedSet_2.1 3 rfl ?_
    refine R_callV (mc := 0) (ms := 0) (mc' := 0) (ms' := 0) (M' := M_X8_doCross) (d' := 0) (as := [vI l2, vI l3]) (st := []) 8 2 e_X8_crossedSet_2.2.1 (kCVof m_X8_doCross l_X8_139) rfl (by decide) kx_58 (by decide) (by decide) rfl rfl (by show (0 : Nat) ≤ 8; decide) ?_
    refine Run.mono h (fun r7 s8 h => ?_)
    refine R_eqs (st2 := [vI r7]) rfl rfl ?_
    obtain ⟨q9, h⟩ := h
    refine R_if_eq 48 e_X8_crossedSet_2.2.2.1 (by decide) q9  (fun q => ?_) (fun q => ?_)
    · replace h := h.1 q
      refine R_iinc (ls2 := [(3, vI (l3 + 1)), (0, vA G 58), (1, vI l1), (2, vI l2)]) e_X8_crossedSet_3.1 3 rfl (by decide) rfl ?_
      refine R_goto 19 e_X8_crossedSet_3.2.1 (by decide) ?_
      refine R_ls (ls2 := [(0, vA G 58), (1, vI l1), (2, vI l2), (3, vI (l3 + 1))]) [1, 2, 3, 0] rfl ?_
      exact h
    · replace h := h.2 q
      refine R_iload_n e_X8_crossedSet_2.2.2.2.1 1 rfl ?_
      refine R_aload_n e_X8_crossedSet_2.2.2.2.2.1 0 rfl ?_
      refine R_iload_n e_X8_crossedSet_2.2.2.2.2.2.1 2 rfl ?_
      refine R_iload_n e_X8_crossedSet_2.2.2.2.2.2.2.1 3 rfl ?_
      refine R_callV (mc := 0) (ms := 0) (mc' := 0) (ms' := 0) (M' := M_X8_shorterOf) (d' := 0) (as := [vI l2, vI l3]) (st := [vI l1]) 8 2 e_X8_crossedSet_2.2.2.2.2.2.2.2.1 (kCVof m_X8_shorterOf l_X8_143) rfl (by decide) kx_58 (by decide) (by decide) rfl rfl (by show (1 : Nat) ≤ 8; decide) ?_
      refine Run.mono h (fun r10 s11 h => ?_)
      refine R_eqs (st2 := [vI r10, vI l1]) rfl rfl ?_
      refine R_ior e_X8_crossedSet_2.2.2.2.2.2.2.2.2.1 ?_
      refine R_istore_n (ls2 := [(1, vI (kor l1 r10)), (0, vA G 58), (2, vI l2), (3, vI l3)]) e_X8_crossedSet_2.2.2.2.2.2.2.2.2.2 (by decide) rfl ?_
      refine R_iinc (ls2 := [(3, vI (l3 + 1)), (1, vI (kor l1 r10)), (0, vA G 58), (2, vI l2)]) e_X8_crossedSet_3.1 3 rfl (by decide) rfl ?_
      refine R_goto 19 e_X8_crossedSet_3.2.1 (by decide) ?_
      refine R_ls (ls2 := [(0, vA G 58), (1, vI (kor l1 r10)), (2, vI l2), (3, vI (l3 + 1))]) [2, 1, 3, 0] rfl ?_
      exact h
