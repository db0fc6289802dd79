/-! KiteLand$Sky.look(LKiteLand$County;I)V -/
theorem e_X8_look_0 : decode cX8_look 0 = .ok (.aload_n 0, 1) ∧ decode cX8_look 1 = .ok (.aload_n 1, 1) ∧ decode cX8_look 2 = .ok (.iload_n 2, 1) ∧ decode cX8_look 3 = .ok (.aload_n 1, 1) ∧ decode cX8_look 4 = .ok (.invokevirtual 35, 3) ∧ decode cX8_look 7 = .ok (.invokevirtual 41, 3) ∧ decode cX8_look 10 = .ok (.aload_n 0, 1) ∧ decode cX8_look 11 = .ok (.invokevirtual 45, 3) ∧ decode cX8_look 14 = .ok (.return_, 1) := by decide +kernel
theorem S_X8_look {G : Kg} {σ : Kmem} {Q : Int → Kmem → Prop} {c l2 : Int} (hc : isC c) (h : Run G WX M_X0_cutSet 0 0 0 [vA G c] σ (fun r1 s2 => Run G WX M_X8_raise 1 0 0 [vA G 58, vA G c, vI l2, vI r1] s2 (fun r3 s4 => Run G WX M_X8_castShade 2 0 0 [vA G 58] s4 (fun r5 s6 => Q 0 s6)))) : Run G WX M_X8_look 3 0 0 [vA G 58, vA G c, vI l2] σ Q := by
  refine Run.of (by decide +kernel) (by show (3 : Nat) ≤ 3; decide) ?_
  show Ex G WX M_X8_look 3 0 0 0 [(0, vA G 58), (1, vA G c), (2, vI l2)] [] σ Q
  refine R_aload_n e_X8_look_0.1 0 rfl ?_
  refine R_aload_n e_X8_look_0.2.1 1 rfl ?_
  refine R_iload_n e_X8_look_0.2.2.1 2 rfl ?_
  refine R_aload_n e_X8_look_0.2.2.2.1 1 rfl ?_
  refine R_callV (mc := 0) (ms := 0) (mc' := 0) (ms' := 0) (M' := M_X0_cutSet) (d' := 0) (as := []) (st := [vI l2, vA G c, vA G 58]) 0 0 e_X8_look_0.2.2.2.2.1 (kCVof m_X0_cutSet l_X8_35) rfl (by decide) (kC_self hc) (by decide) (by decide) rfl rfl (by show (3 : Nat) ≤ 8; decide) ?_
  refine Run.mono h (fun r1 s2 h => ?_)
  refine R_eqs (st2 := [vI r1, vI l2, vA G c, vA G 58]) rfl rfl ?_
  refine R_callV (mc := 0) (ms := 0) (mc' := 0) (ms' := 0) (M' := M_X8_raise) (d' := 1) (as := [vA G c, vI l2, vI r1]) (st := []) 8 3 e_X8_look_0.2.2.2.2.2.1 (kCVof m_X8_raise l_X8_41) rfl (by decide) kx_58 (by decide) (by decide) rfl rfl (by show (0 : Nat) ≤ 8; decide) ?_
  refine Run.mono h (fun r3 s4 h => ?_)
  refine R_eqs (st2 := []) rfl rfl ?_
  refine R_aload_n e_X8_look_0.2.2.2.2.2.2.1 0 rfl ?_
  refine R_callV (mc := 0) (ms := 0) (mc' := 0) (ms' := 0) (M' := M_X8_castShade) (d' := 2) (as := []) (st := []) 8 0 e_X8_look_0.2.2.2.2.2.2.2.1 (kCVof m_X8_castShade l_X8_45) rfl (by decide) kx_58 (by decide) (by decide) rfl rfl (by show (0 : Nat) ≤ 8; decide) ?_
  refine Run.mono h (fun r5 s6 h => ?_)
  refine R_eqs (st2 := []) rfl rfl ?_
  exact R_return e_X8_look_0.2.2.2.2.2.2.2.2 rfl h
/-! KiteLand$Sky.lookPastCuts(LKiteLand$County;I)V -/
theorem e_X8_lookPastCuts_0 : decode cX8_lookPastCuts 0 = .ok (.aload_n 0, 1) ∧ decode cX8_lookPastCuts 1 = .ok (.aload_n 1, 1) ∧ decode cX8_lookPastCuts 2 = .ok (.iload_n 2, 1) ∧ decode cX8_lookPastCuts 3 = .ok (.iconst 0, 1) ∧ decode cX8_lookPastCuts 4 = .ok (.invokevirtual 41, 3) ∧ decode cX8_lookPastCuts 7 = .ok (.aload_n 0, 1) ∧ decode cX8_lookPastCuts 8 = .ok (.invokevirtual 45, 3) ∧ decode cX8_lookPastCuts 11 = .ok (.return_, 1) := by decide +kernel
theorem S_X8_lookPastCuts {G : Kg} {σ : Kmem} {Q : Int → Kmem → Prop} {c l2 : Int} (hc : isC c) (h : Run G WX M_X8_raise 1 0 0 [vA G 58, vA G c, vI l2, vI 0] σ (fun r1 s2 => Run G WX M_X8_castShade 2 0 0 [vA G 58] s2 (fun r3 s4 => Q 0 s4))) : Run G WX M_X8_lookPastCuts 3 0 0 [vA G 58, vA G c, vI l2] σ Q := by
  refine Run.of (by decide +kernel) (by show (3 : Nat) ≤ 3; decide) ?_
  show Ex G WX M_X8_lookPastCuts 3 0 0 0 [(0, vA G 58), (1, vA G c), (2, vI l2)] [] σ Q
  refine R_aload_n e_X8_lookPastCuts_0.1 0 rfl ?_
  refine R_aload_n e_X8_lookPastCuts_0.2.1 1 rfl ?_
  refine R_iload_n e_X8_lookPastCuts_0.2.2.1 2 rfl ?_
  refine R_iconst e_X8_lookPastCuts_0.2.2.2.1 ?_
  refine R_callV (mc := 0) (ms := 0) (mc' := 0) (ms' := 0) (M' := M_X8_raise) (d' := 1) (as := [vA G c, vI l2, vI 0]) (st := []) 8 3 e_X8_lookPastCuts_0.2.2.2.2.1 (kCVof m_X8_raise l_X8_41) rfl (by decide) kx_58 (by decide) (by decide) rfl rfl (by show (0 : Nat) ≤ 8; decide) ?_
  refine Run.mono h (fun r1 s2 h => ?_)
  refine R_eqs (st2 := []) rfl rfl ?_
  refine R_aload_n e_X8_lookPastCuts_0.2.2.2.2.2.1 0 rfl ?_
  refine R_callV (mc := 0) (ms := 0) (mc' := 0) (ms' := 0) (M' := M_X8_castShade) (d' := 2) (as := []) (st := []) 8 0 e_X8_lookPastCuts_0.2.2.2.2.2.2.1 (kCVof m_X8_castShade l_X8_45) rfl (by decide) kx_58 (by decide) (by decide) rfl rfl (by show (0 : Nat) ≤ 8; decide) ?_
  refine Run.mono h (fun r3 s4 h => ?_)
  refine R_eqs (st2 := []) rfl rfl ?_
  exact R_return e_X8_lookPastCuts_0.2.2.2.2.2.2.2 rfl h
/-! KiteLand$Sky.raise(LKiteLand$County;II)V -/
theorem e_X8_raise_0 : decode cX8_raise 0 = .ok (.aload_n 0, 1) ∧ decode cX8_raise 1 = .ok (.aload_n 1, 1) ∧ decode cX8_raise 2 = .ok (.putfield 31, 3) ∧ decode cX8_raise 5 = .ok (.aload_n 0, 1) ∧ decode cX8_raise 6 = .ok (.iconst 0, 1) ∧ decode cX8_raise 7 = .ok (.putfield 9, 3) ∧ decode cX8_raise 10 = .ok (.aload_n 1, 1) ∧ decode cX8_raise 11 = .ok (.getfield 48, 3) ∧ decode cX8_raise 14 = .ok (.iload_n 2, 1) ∧ decode cX8_raise 15 = .ok (.iaload, 1) := by decide +kernel
theorem e_X8_raise_1 : decode cX8_raise 16 = .ok (.istore 4, 2) ∧ decode cX8_raise 18 = .ok (.aload_n 1, 1) ∧ decode cX8_raise 19 = .ok (.getfield 51, 3) ∧ decode cX8_raise 22 = .ok (.iload_n 2, 1) ∧ decode cX8_raise 23 = .ok (.iaload, 1) ∧ decode cX8_raise 24 = .ok (.istore 5, 2) ∧ decode cX8_raise 26 = .ok (.iconst 0, 1) ∧ decode cX8_raise 27 = .ok (.istore 6, 2) ∧ decode cX8_raise 29 = .ok (.iload 6, 2) ∧ decode cX8_raise 31 = .ok (.aload_n 1, 1) := by decide +kernel
theorem e_X8_raise_2 : decode cX8_raise 32 = .ok (.getfield 54, 3) ∧ decode cX8_raise 35 = .ok (.if_icmp .ge 144, 3) ∧ decode cX8_raise 38 = .ok (.aload_n 1, 1) ∧ decode cX8_raise 39 = .ok (.getfield 57, 3) ∧ decode cX8_raise 42 = .ok (.iload 6, 2) ∧ decode cX8_raise 44 = .ok (.aaload, 1) ∧ decode cX8_raise 45 = .ok (.astore 7, 2) ∧ decode cX8_raise 47 = .ok (.aload 7, 2) ∧ decode cX8_raise 49 = .ok (.getfield 61, 3) ∧ decode cX8_raise 52 = .ok (.iload 4, 2) := by decide +kernel
theorem e_X8_raise_3 : decode cX8_raise 54 = .ok (.imul, 1) ∧ decode cX8_raise 55 = .ok (.iconst 3, 1) ∧ decode cX8_raise 56 = .ok (.idiv, 1) ∧ decode cX8_raise 57 = .ok (.istore 8, 2) ∧ decode cX8_raise 59 = .ok (.iload 5, 2) ∧ decode cX8_raise 61 = .ok (.aload 7, 2) ∧ decode cX8_raise 63 = .ok (.getfield 66, 3) ∧ decode cX8_raise 66 = .ok (.iadd, 1) ∧ decode cX8_raise 67 = .ok (.bipush 8, 2) ∧ decode cX8_raise 69 = .ok (.irem, 1) := by decide +kernel
theorem e_X8_raise_4 : decode cX8_raise 70 = .ok (.istore 9, 2) ∧ decode cX8_raise 72 = .ok (.aload_n 0, 1) ∧ decode cX8_raise 73 = .ok (.getfield 15, 3) ∧ decode cX8_raise 76 = .ok (.iload 6, 2) ∧ decode cX8_raise 78 = .ok (.aload 7, 2) ∧ decode cX8_raise 80 = .ok (.getfield 69, 3) ∧ decode cX8_raise 83 = .ok (.getstatic 72, 3) ∧ decode cX8_raise 86 = .ok (.iload 9, 2) ∧ decode cX8_raise 88 = .ok (.iaload, 1) ∧ decode cX8_raise 89 = .ok (.iload 8, 2) := by decide +kernel
theorem e_X8_raise_5 : decode cX8_raise 91 = .ok (.imul, 1) ∧ decode cX8_raise 92 = .ok (.iadd, 1) ∧ decode cX8_raise 93 = .ok (.iastore, 1) ∧ decode cX8_raise 94 = .ok (.aload_n 0, 1) ∧ decode cX8_raise 95 = .ok (.getfield 19, 3) ∧ decode cX8_raise 98 = .ok (.iload 6, 2) ∧ decode cX8_raise 100 = .ok (.aload 7, 2) ∧ decode cX8_raise 102 = .ok (.getfield 75, 3) ∧ decode cX8_raise 105 = .ok (.getstatic 78, 3) ∧ decode cX8_raise 108 = .ok (.iload 9, 2) := by decide +kernel
theorem e_X8_raise_6 : decode cX8_raise 110 = .ok (.iaload, 1) ∧ decode cX8_raise 111 = .ok (.iload 8, 2) ∧ decode cX8_raise 113 = .ok (.imul, 1) ∧ decode cX8_raise 114 = .ok (.iadd, 1) ∧ decode cX8_raise 115 = .ok (.iastore, 1) ∧ decode cX8_raise 116 = .ok (.aload_n 0, 1) ∧ decode cX8_raise 117 = .ok (.getfield 22, 3) ∧ decode cX8_raise 120 = .ok (.iload 6, 2) ∧ decode cX8_raise 122 = .ok (.iload_n 2, 1) ∧ decode cX8_raise 123 = .ok (.aload_n 1, 1) := by decide +kernel
theorem e_X8_raise_7 : decode cX8_raise 124 = .ok (.getfield 81, 3) ∧ decode cX8_raise 127 = .ok (.if_icmp .ne 17, 3) ∧ decode cX8_raise 130 = .ok (.iconst 0, 1) ∧ decode cX8_raise 131 = .ok (.aload 7, 2) ∧ decode cX8_raise 133 = .ok (.getfield 84, 3) ∧ decode cX8_raise 136 = .ok (.iconst 1, 1) ∧ decode cX8_raise 137 = .ok (.isub, 1) ∧ decode cX8_raise 138 = .ok (.invokestatic 87, 3) ∧ decode cX8_raise 141 = .ok (.goto 8, 3) ∧ decode cX8_raise 144 = .ok (.aload 7, 2) := by decide +kernel
theorem e_X8_raise_8 : decode cX8_raise 146 = .ok (.getfield 84, 3) ∧ decode cX8_raise 149 = .ok (.iastore, 1) ∧ decode cX8_raise 150 = .ok (.iload 4, 2) ∧ decode cX8_raise 152 = .ok (.aload 7, 2) ∧ decode cX8_raise 154 = .ok (.getfield 93, 3) ∧ decode cX8_raise 157 = .ok (.if_icmp .lt 16, 3) ∧ decode cX8_raise 160 = .ok (.aload_n 0, 1) ∧ decode cX8_raise 161 = .ok (.dup, 1) ∧ decode cX8_raise 162 = .ok (.getfield 9, 3) ∧ decode cX8_raise 165 = .ok (.iconst 1, 1) := by decide +kernel
theorem e_X8_raise_9 : decode cX8_raise 166 = .ok (.iload 6, 2) ∧ decode cX8_raise 168 = .ok (.ishl, 1) ∧ decode cX8_raise 169 = .ok (.ior, 1) ∧ decode cX8_raise 170 = .ok (.putfield 9, 3) ∧ decode cX8_raise 173 = .ok (.iinc 6 1, 3) ∧ decode cX8_raise 176 = .ok (.goto (-147), 3) ∧ decode cX8_raise 179 = .ok (.aload_n 0, 1) ∧ decode cX8_raise 180 = .ok (.iload_n 3, 1) ∧ decode cX8_raise 181 = .ok (.invokevirtual 96, 3) ∧ decode cX8_raise 184 = .ok (.return_, 1) := by decide +kernel
abbrev E_X8_raise_29 (G : Kg) (c l2 l3 l4 l5 l6 : Int) (σ : Kmem) (Q : Int → Kmem → Prop) : Prop := Ex G WX M_X8_raise 1 0 0 29 [(0, vA G 58), (1, vA G c), (2, vI l2), (3, vI l3), (4, vI l4), (5, vI l5), (6, vI l6)] [] σ Q
theorem S_X8_raise {G : Kg} {σ : Kmem} {Q : Int → Kmem → Prop} {c l2 l3 : Int} (hc : isC c) (h : (0 ≤ l2 ∧ l2 < 12) ∧ (0 ≤ l2 ∧ l2 < 12) ∧ E_X8_raise_29 G c l2 l3 ((kup (kup σ 58 0 c) 58 1 0) (c + 2) l2) ((kup (kup σ 58 0 c) 58 1 0) (c + 1) l2) 0 (kup (kup σ 58 0 c) 58 1 0) Q) : Run G WX M_X8_raise 1 0 0 [vA G 58, vA G c, vI l2, vI l3] σ Q := by
  refine Run.of (by decide +kernel) (by show (4 : Nat) ≤ 10; decide) ?_
  show Ex G WX M_X8_raise 1 0 0 0 [(0, vA G 58), (1, vA G c), (2, vI l2), (3, vI l3)] [] σ Q
  refine R_aload_n e_X8_raise_0.1 0 rfl ?_
  refine R_aload_n e_X8_raise_0.2.1 1 rfl ?_
  refine R_putA 8 0 0 e_X8_raise_0.2.2.1 f_X8_31 kx_58 (Or.inl rfl) rfl (sky_put hc) rfl ?_
  refine R_aload_n e_X8_raise_0.2.2.2.1 0 rfl ?_
  refine R_iconst e_X8_raise_0.2.2.2.2.1 ?_
  refine R_putI 8 1 1 WX_ok e_X8_raise_0.2.2.2.2.2.1 f_X8_9 kx_58 rfl rfl rfl ?_
  refine R_aload_n e_X8_raise_0.2.2.2.2.2.2.1 1 rfl ?_
  refine R_getA 0 9 (c + 2) e_X8_raise_0.2.2.2.2.2.2.2.1 f_X8_48 (kC_self hc) (fun _ _ => rfl) (kC_r9 hc) (kC_n2 hc) ?_
  refine R_iload_n e_X8_raise_0.2.2.2.2.2.2.2.2.1 2 rfl ?_
  obtain ⟨q1, h⟩ := h
  refine R_iald 12 e_X8_raise_0.2.2.2.2.2.2.2.2.2 (kC_forces hc) q1 ?_
  refine R_istore (ls2 := [(4, vI ((kup (kup σ 58 0 c) 58 1 0) (c + 2) l2)), (0, vA G 58), (1, vA G c), (2, vI l2), (3, vI l3)]) e_X8_raise_1.1 (by decide) rfl ?_
  refine R_aload_n e_X8_raise_1.2.1 2 rfl ?_
  refine R_getA 0 8 (c + 1) e_X8_raise_1.2.2.1 f_X8_51 (kC_self hc) (fun _ _ => rfl) (kC_r8 hc) (kC_n1 hc) ?_
  refine R_iload_n e_X8_raise_1.2.2.2.1 3 rfl ?_
  obtain ⟨q2, h⟩ := h
  refine R_iald 12 e_X8_raise_1.2.2.2.2.1 (kC_dirs hc) q2 ?_
  refine R_istore (ls2 := [(5, vI ((kup (kup σ 58 0 c) 58 1 0) (c + 1) l2)), (4, vI ((kup (kup σ 58 0 c) 58 1 0) (c + 2) l2)), (0, vA G 58), (1, vA G c), (2, vI l2), (3, vI l3)]) e_X8_raise_1.2.2.2.2.2.1 (by decide) rfl ?_
  refine R_iconst e_X8_raise_1.2.2.2.2.2.2.1 ?_
  refine R_istore (ls2 := [(6, vI 0), (5, vI ((kup (kup σ 58 0 c) 58 1 0) (c + 1) l2)), (4, vI ((kup (kup σ 58 0 c) 58 1 0) (c + 2) l2)), (0, vA G 58), (1, vA G c), (2, vI l2), (3, vI l3)]) e_X8_raise_1.2.2.2.2.2.2.2.1 (by decide) rfl ?_
  refine R_ls (ls2 := [(0, vA G 58), (1, vA G c), (2, vI l2), (3, vI l3), (4, vI ((kup (kup σ 58 0 c) 58 1 0) (c + 2) l2)), (5, vI ((kup (kup σ 58 0 c) 58 1 0) (c + 1) l2)), (6, vI 0)]) [3, 4, 5, 6, 2, 1, 0] rfl ?_
  exact h
theorem S_X8_raise_29 {G : Kg} {σ : Kmem} {Q : Int → Kmem → Prop} {c l2 l3 l4 l5 l6 : Int} (hc : isC c) (h : (rI l6) ∧ (rI (σ c 5)) ∧ ((σ c 5 ≤ l6 → Run G WX M_X8_drop 0 0 0 [vA G 58, vI l3] σ (fun r5 s6 => Q 0 s6)) ∧ (l6 < σ c 5 → (0 ≤ l6 ∧ l6 < 6) ∧ (0 ≤ (σ (c + 6 + l6) 4) * l4 ∧ (σ (c + 6 + l6) 4) * l4 ≤ 2147483647) ∧ (0 ≤ l5 + (σ (c + 6 + l6) 6) ∧ l5 + (σ (c + 6 + l6) 6) ≤ 2147483647) ∧ (0 ≤ (l5 + (σ (c + 6 + l6) 6)) % 8 ∧ (l5 + (σ (c + 6 + l6) 6)) % 8 < 8) ∧ (0 ≤ l6 ∧ l6 < 6) ∧ (0 ≤ (l5 + (σ (c + 6 + l6) 6)) % 8 ∧ (l5 + (σ (c + 6 + l6) 6)) % 8 < 8) ∧ (0 ≤ l6 ∧ l6 < 6) ∧ (rI l2) ∧ (rI ((kup (kup σ 59 l6 ((σ (c + 6 + l6) 1) + ((kst2 ((l5 + (σ (c + 6 + l6) 6)) % 8)) * (((σ (c + 6 + l6) 4) * l4) / 3)))) 60 l6 (((kup σ 59 l6 ((σ (c + 6 + l6) 1) + ((kst2 ((l5 + (σ (c + 6 + l6) 6)) % 8)) * (((σ (c + 6 + l6) 4) * l4) / 3)))) (c + 6 + l6) 2) + ((kst3 ((l5 + (σ (c + 6 + l6) 6)) % 8)) * (((σ (c + 6 + l6) 4) * l4) / 3)))) c 2)) ∧ ((l2 ≠ (kup (kup σ 59 l6 ((σ (c + 6 + l6) 1) + ((kst2 ((l5 + (σ (c + 6 + l6) 6)) % 8)) * (((σ (c + 6 + l6) 4) * l4) / 3)))) 60 l6 (((kup σ 59 l6 ((σ (c + 6 + l6) 1) + ((kst2 ((l5 + (σ (c + 6 + l6) 6)) % 8)) * (((σ (c + 6 + l6) 4) * l4) / 3)))) (c + 6 + l6) 2) + ((kst3 ((l5 + (σ (c + 6 + l6) 6)) % 8)) * (((σ (c + 6 + l6) 4) * l4) / 3)))) c 2 → (0 ≤ l6 ∧ l6 < 6) ∧ (rI l4) ∧ (rI ((kup (kup (kup σ 59 l6 ((σ (c + 6 + l6) 1) + ((kst2 ((l5 + (σ (c + 6 + l6) 6)) % 8)) * (((σ (c + 6 + l6) 4) * l4) / 3)))) 60 l6 (((kup σ 59 l6 ((σ (c + 6 + l6) 1) + ((kst2 ((l5 + (σ (c + 6 + l6) 6)) % 8)) * (((σ (c + 6 + l6) 4) * l4) / 3)))) (c + 6 + l6) 2) + ((kst3 ((l5 + (σ (c + 6 + l6) 6)) % 8)) * (((σ (c + 6 + l6) 4) * l4) / 3)))) 61 l6 ((kup (kup σ 59 l6 ((σ (c + 6 + l6) 1) + ((kst2 ((l5 + (σ (c + 6 + l6) 6)) % 8)) * (((σ (c + 6 + l6) 4) * l4) / 3)))) 60 l6 (((kup σ 59 l6 ((σ (c + 6 + l6) 1) + ((kst2 ((l5 + (σ (c + 6 + l6) 6)) % 8)) * (((σ (c + 6 + l6) 4) * l4) / 3)))) (c + 6 + l6) 2) + ((kst3 ((l5 + (σ (c + 6 + l6) 6)) % 8)) * (((σ (c + 6 + l6) 4) * l4) / 3)))) (c + 6 + l6) 3)) (c + 6 + l6) 5)) ∧ ((l4 < (kup (kup (kup σ 59 l6 ((σ (c + 6 + l6) 1) + ((kst2 ((l5 + (σ (c + 6 + l6) 6)) % 8)) * (((σ (c + 6 + l6) 4) * l4) / 3)))) 60 l6 (((kup σ 59 l6 ((σ (c + 6 + l6) 1) + ((kst2 ((l5 + (σ (c + 6 + l6) 6)) % 8)) * (((σ (c + 6 + l6) 4) * l4) / 3)))) (c + 6 + l6) 2) + ((kst3 ((l5 + (σ (c + 6 + l6) 6)) % 8)) * (((σ (c + 6 + l6) 4) * l4) / 3)))) 61 l6 ((kup (kup σ 59 l6 ((σ (c + 6 + l6) 1) + ((kst2 ((l5 + (σ (c + 6 + l6) 6)) % 8)) * (((σ (c + 6 + l6) 4) * l4) / 3)))) 60 l6 (((kup σ 59 l6 ((σ (c + 6 + l6) 1) + ((kst2 ((l5 + (σ (c + 6 + l6) 6)) % 8)) * (((σ (c + 6 + l6) 4) * l4) / 3)))) (c + 6 + l6) 2) + ((kst3 ((l5 + (σ (c + 6 + l6) 6)) % 8)) * (((σ (c + 6 + l6) 4) * l4) / 3)))) (c + 6 + l6) 3)) (c + 6 + l6) 5 → E_X8_raise_29 G c l2 l3 l4 l5 (l6 + 1) (kup (kup (kup σ 59 l6 ((σ (c + 6 + l6) 1) + ((kst2 ((l5 + (σ (c + 6 + l6) 6)) % 8)) * (((σ (c + 6 + l6) 4) * l4) / 3)))) 60 l6 (((kup σ 59 l6 ((σ (c + 6 + l6) 1) + ((kst2 ((l5 + (σ (c + 6 + l6) 6)) % 8)) * (((σ (c + 6 + l6) 4) * l4) / 3)))) (c + 6 + l6) 2) + ((kst3 ((l5 + (σ (c + 6 + l6) 6)) % 8)) * (((σ (c + 6 + l6) 4) * l4) / 3)))) 61 l6 ((kup (kup σ 59 l6 ((σ (c + 6 + l6) 1) + ((kst2 ((l5 + (σ (c + 6 + l6) 6)) % 8)) * (((σ (c + 6 + l6) 4) * l4) / 3)))) 60 l6 (((kup σ 59 l6 ((σ (c + 6 + l6) 1) + ((kst2 ((l5 + (σ (c + 6 + l6) 6)) % 8)) * (((σ (c + 6 + l6) 4) * l4) / 3)))) (c + 6 + l6) 2) + ((kst3 ((l5 + (σ (c + 6 + l6) 6)) % 8)) * (((σ (c + 6 + l6) 4) * l4) / 3)))) (c + 6 + l6) 3)) Q) ∧ ((kup (kup (kup σ 59 l6 ((σ (c + 6 + l6) 1) + ((kst2 ((l5 + (σ (c + 6 + l6) 6)) % 8)) * (((σ (c + 6 + l6) 4) * l4) / 3)))) 60 l6 (((kup σ 59 l6 ((σ (c + 6 + l6) 1) + ((kst2 ((l5 + (σ (c + 6 + l6) 6)) % 8)) * (((σ (c + 6 + l6) 4) * l4) / 3)))) (c + 6 + l6) 2) + ((kst3 ((l5 + (σ (c + 6 + l6) 6)) % 8)) * (((σ (c + 6 + l6) 4) * l4) / 3)))) 61 l6 ((kup (kup σ 59 l6 ((σ (c + 6 + l6) 1) + ((kst2 ((l5 + (σ (c + 6 + l6) 6)) % 8)) * (((σ (c + 6 + l6) 4) * l4) / 3)))) 60 l6 (((kup σ 59 l6 ((σ (c + 6 + l6) 1) + ((kst2 ((l5 + (σ (c + 6 + l6) 6)) % 8)) * (((σ (c + 6 + l6) 4) * l4) / 3)))) (c + 6 + l6) 2) + ((kst3 ((l5 + (σ (c + 6 + l6) 6)) % 8)) * (((σ (c + 6 + l6) 4) * l4) / 3)))) (c + 6 + l6) 3)) (c + 6 + l6) 5 ≤ l4 → E_X8_raise_29 G c l2 l3 l4 l5 (l6 + 1) (kup (kup (kup (kup σ 59 l6 ((σ (c + 6 + l6) 1) + ((kst2 ((l5 + (σ (c + 6 + l6) 6)) % 8)) * (((σ (c + 6 + l6) 4) * l4) / 3)))) 60 l6 (((kup σ 59 l6 ((σ (c + 6 + l6) 1) + ((kst2 ((l5 + (σ (c + 6 + l6) 6)) % 8)) * (((σ (c + 6 + l6) 4) * l4) / 3)))) (c + 6 + l6) 2) + ((kst3 ((l5 + (σ (c + 6 + l6) 6)) % 8)) * (((σ (c + 6 + l6) 4) * l4) / 3)))) 61 l6 ((kup (kup σ 59 l6 ((σ (c + 6 + l6) 1) + ((kst2 ((l5 + (σ (c + 6 + l6) 6)) % 8)) * (((σ (c + 6 + l6) 4) * l4) / 3)))) 60 l6 (((kup σ 59 l6 ((σ (c + 6 + l6) 1) + ((kst2 ((l5 + (σ (c + 6 + l6) 6)) % 8)) * (((σ (c + 6 + l6) 4) * l4) / 3)))) (c + 6 + l6) 2) + ((kst3 ((l5 + (σ (c + 6 + l6) 6)) % 8)) * (((σ (c + 6 + l6) 4) * l4) / 3)))) (c + 6 + l6) 3)) 58 1 (kor ((kup (kup (kup σ 59 l6 ((σ (c + 6 + l6) 1) + ((kst2 ((l5 + (σ (c + 6 + l6) 6)) % 8)) * (((σ (c + 6 + l6) 4) * l4) / 3)))) 60 l6 (((kup σ 59 l6 ((σ (c + 6 + l6) 1) + ((kst2 ((l5 + (σ (c + 6 + l6) 6)) % 8)) * (((σ (c + 6 + l6) 4) * l4) / 3)))) (c + 6 + l6) 2) + ((kst3 ((l5 + (σ (c + 6 + l6) 6)) % 8)) * (((σ (c + 6 + l6) 4) * l4) / 3)))) 61 l6 ((kup (kup σ 59 l6 ((σ (c + 6 + l6) 1) + ((kst2 ((l5 + (σ (c + 6 + l6) 6)) % 8)) * (((σ (c + 6 + l6) 4) * l4) / 3)))) 60 l6 (((kup σ 59 l6 ((σ (c + 6 + l6) 1) + ((kst2 ((l5 + (σ (c + 6 + l6) 6)) % 8)) * (((σ (c + 6 + l6) 4) * l4) / 3)))) (c + 6 + l6) 2) + ((kst3 ((l5 + (σ (c + 6 + l6) 6)) % 8)) * (((σ (c + 6 + l6) 4) * l4) / 3)))) (c + 6 + l6) 3)) 58 1) (kshl 1 l6))) Q))) ∧ (l2 = (kup (kup σ 59 l6 ((σ (c + 6 + l6) 1) + ((kst2 ((l5 + (σ (c + 6 + l6) 6)) % 8)) * (((σ (c + 6 + l6) 4) * l4) / 3)))) 60 l6 (((kup σ 59 l6 ((σ (c + 6 + l6) 1) + ((kst2 ((l5 + (σ (c + 6 + l6) 6)) % 8)) * (((σ (c + 6 + l6) 4) * l4) / 3)))) (c + 6 + l6) 2) + ((kst3 ((l5 + (σ (c + 6 + l6) 6)) % 8)) * (((σ (c + 6 + l6) 4) * l4) / 3)))) c 2 → Run G WX M_J9_max_7cf53 0 0 0 [vI 0, vI (((kup (kup σ 59 l6 ((σ (c + 6 + l6) 1) + ((kst2 ((l5 + (σ (c + 6 + l6) 6)) % 8)) * (((σ (c + 6 + l6) 4) * l4) / 3)))) 60 l6 (((kup σ 59 l6 ((σ (c + 6 + l6) 1) + ((kst2 ((l5 + (σ (c + 6 + l6) 6)) % 8)) * (((σ (c + 6 + l6) 4) * l4) / 3)))) (c + 6 + l6) 2) + ((kst3 ((l5 + (σ (c + 6 + l6) 6)) % 8)) * (((σ (c + 6 + l6) 4) * l4) / 3)))) (c + 6 + l6) 3) - 1)] (kup (kup σ 59 l6 ((σ (c + 6 + l6) 1) + ((kst2 ((l5 + (σ (c + 6 + l6) 6)) % 8)) * (((σ (c + 6 + l6) 4) * l4) / 3)))) 60 l6 (((kup σ 59 l6 ((σ (c + 6 + l6) 1) + ((kst2 ((l5 + (σ (c + 6 + l6) 6)) % 8)) * (((σ (c + 6 + l6) 4) * l4) / 3)))) (c + 6 + l6) 2) + ((kst3 ((l5 + (σ (c + 6 + l6) 6)) % 8)) * (((σ (c + 6 + l6) 4) * l4) / 3)))) (fun r19 s20 => (0 ≤ l6 ∧ l6 < 6) ∧ (rI l4) ∧ (rI ((kup s20 61 l6 r19) (c + 6 + l6) 5)) ∧ ((l4 < (kup s20 61 l6 r19) (c + 6 + l6) 5 → E_X8_raise_29 G c l2 l3 l4 l5 (l6 + 1) (kup s20 61 l6 r19) Q) ∧ ((kup s20 61 l6 r19) (c + 6 + l6) 5 ≤ l4 → E_X8_raise_29 G c l2 l3 l4 l5 (l6 + 1) (kup (kup s20 61 l6 r19) 58 1 (kor ((kup s20 61 l6 r19) 58 1) (kshl 1 l6))) Q)))))))) : E_X8_raise_29 G c l2 l3 l4 l5 l6 σ Q := by
  refine R_iload e_X8_raise_1.2.2.2.2.2.2.2.2.1 6 rfl ?_
  refine R_aload_n e_X8_raise_1.2.2.2.2.2.2.2.2.2 1 rfl ?_
  refine R_getI 0 5 5 e_X8_raise_2.1 f_X8_54 (kC_self hc) (fun _ _ => rfl) rfl ?_
  obtain ⟨q3, h⟩ := h
  obtain ⟨q4, h⟩ := h
  refine R_icmp_ge 179 e_X8_raise_2.2.1 (by decide) q3 q4 (fun q => ?_) (fun q => ?_)
  · replace h := h.1 q
    refine R_aload_n e_X8_raise_9.2.2.2.2.2.2.1 0 rfl ?_
    refine R_iload_n e_X8_raise_9.2.2.2.2.2.2.2.1 3 rfl ?_
    refine R_callV (mc := 0) (ms := 0) (mc' := 0) (ms' := 0) (M' := M_X8_drop) (d' := 0) (as := [vI l3]) (st := []) 8 1 e_X8_raise_9.2.2.2.2.2.2.2.2.1 (kCVof m_X8_drop l_X8_96) rfl (by decide) kx_58 (by decide) (by decide) rfl rfl (by show (0 : Nat) ≤ 8; decide) ?_
    refine Run.mono h (fun r5 s6 h => ?_)
    refine R_eqs (st2 := []) rfl rfl ?_
    exact R_return e_X8_raise_9.2.2.2.2.2.2.2.2.2 rfl h
  · replace h := h.2 q
    refine R_aload_n e_X8_raise_2.2.2.1 1 rfl ?_
    refine R_getA 0 10 (c + 3) e_X8_raise_2.2.2.2.1 f_X8_57 (kC_self hc) (fun _ _ => rfl) (kC_r10 hc) (kC_n3 hc) ?_
    refine R_iload e_X8_raise_2.2.2.2.2.1 6 rfl ?_
    obtain ⟨q7, h⟩ := h
    refine R_aald 27 6 (c + 6 + l6) e_X8_raise_2.2.2.2.2.2.1 (by decide) (kC_kites hc) q7 (kC_kiteAt hc q7) (kC_kiteN hc q7) ?_
    refine R_astore (ls2 := [(7, vA G (c + 6 + l6)), (0, vA G 58), (1, vA G c), (2, vI l2), (3, vI l3), (4, vI l4), (5, vI l5), (6, vI l6)]) e_X8_raise_2.2.2.2.2.2.2.1 (by decide) rfl ?_
    refine R_aload e_X8_raise_2.2.2.2.2.2.2.2.1 0 rfl ?_
    refine R_getI 3 4 4 e_X8_raise_2.2.2.2.2.2.2.2.2.1 f_X8_61 (kC_kite hc q7) (fun _ _ => rfl) rfl ?_
    refine R_iload e_X8_raise_2.2.2.2.2.2.2.2.2.2 5 rfl ?_
    refine R_imul e_X8_raise_3.1 ?_
    refine R_iconst e_X8_raise_3.2.1 ?_
    obtain ⟨q8, h⟩ := h
    refine R_idiv e_X8_raise_3.2.2.1 q8 (by decide) ?_
    refine R_istore (ls2 := [(8, vI (((σ (c + 6 + l6) 4) * l4) / 3)), (7, vA G (c + 6 + l6)), (0, vA G 58), (1, vA G c), (2, vI l2), (3, vI l3), (4, vI l4), (5, vI l5), (6, vI l6)]) e_X8_raise_3.2.2.2.1 (by decide) rfl ?_
    refine R_iload e_X8_raise_3.2.2.2.2.1 7 rfl ?_
    refine R_aload e_X8_raise_3.2.2.2.2.2.1 1 rfl ?_
    refine R_getI 3 6 6 e_X8_raise_3.2.2.2.2.2.2.1 f_X8_66 (kC_kite hc q7) (fun _ _ => rfl) rfl ?_
    refine R_iadd e_X8_raise_3.2.2.2.2.2.2.2.1 ?_
    refine R_bipush e_X8_raise_3.2.2.2.2.2.2.2.2.1 (by decide) ?_
    obtain ⟨q9, h⟩ := h
    refine R_irem e_X8_raise_3.2.2.2.2.2.2.2.2.2 q9 (by decide) ?_
    refine R_istore (ls2 := [(9, vI ((l5 + (σ (c + 6 + l6) 6)) % 8)), (8, vI (((σ (c + 6 + l6) 4) * l4) / 3)), (7, vA G (c + 6 + l6)), (0, vA G 58), (1, vA G c), (2, vI l2), (3, vI l3), (4, vI l4), (5, vI l5), (6, vI l6)]) e_X8_raise_4.1 (by decide) rfl ?_
    refine R_aload_n e_X8_raise_4.2.1 3 rfl ?_
    refine R_getA 8 2 59 e_X8_raise_4.2.2.1 f_X8_15 kx_58 (fun _ _ => rfl) rx_58_2 (by decide) ?_
    refine R_iload e_X8_raise_4.2.2.2.1 9 rfl ?_
    refine R_aload e_X8_raise_4.2.2.2.2.1 2 rfl ?_
    refine R_getI 3 1 1 e_X8_raise_4.2.2.2.2.2.1 f_X8_69 (kC_kite hc q7) (fun _ _ => rfl) rfl ?_
    refine R_getsN (i := 2) (-3) e_X8_raise_4.2.2.2.2.2.2.1 rfl kn_X8_72 rfl ?_
    refine R_iload e_X8_raise_4.2.2.2.2.2.2.2.1 0 rfl ?_
    obtain ⟨q10, h⟩ := h
    refine R_ialdS (i := 2) (-3) (kst2 ((l5 + (σ (c + 6 + l6) 6)) % 8)) e_X8_raise_4.2.2.2.2.2.2.2.2.1 rfl rfl q10 (by decide) (kst2_v q10) ?_
    refine R_iload e_X8_raise_4.2.2.2.2.2.2.2.2.2 1 rfl ?_
    refine R_imul e_X8_raise_5.1 ?_
    refine R_iadd e_X8_raise_5.2.1 ?_
    obtain ⟨q11, h⟩ := h
    refine R_iast 6 WX_ok e_X8_raise_5.2.2.1 kxa_59 q11 ?_
    refine R_aload_n e_X8_raise_5.2.2.2.1 3 rfl ?_
    refine R_getA 8 3 60 e_X8_raise_5.2.2.2.2.1 f_X8_19 kx_58 (fun _ _ => rfl) rx_58_3 (by decide) ?_
    refine R_iload e_X8_raise_5.2.2.2.2.2.1 9 rfl ?_
    refine R_aload e_X8_raise_5.2.2.2.2.2.2.1 2 rfl ?_
    refine R_getI 3 2 2 e_X8_raise_5.2.2.2.2.2.2.2.1 f_X8_75 (kC_kite hc q7) (fun _ _ => rfl) rfl ?_
    refine R_getsN (i := 3) (-4) e_X8_raise_5.2.2.2.2.2.2.2.2.1 rfl kn_X8_78 rfl ?_
    refine R_iload e_X8_raise_5.2.2.2.2.2.2.2.2.2 0 rfl ?_
    obtain ⟨q12, h⟩ := h
    refine R_ialdS (i := 3) (-4) (kst3 ((l5 + (σ (c + 6 + l6) 6)) % 8)) e_X8_raise_6.1 rfl rfl q12 (by decide) (kst3_v q12) ?_
    refine R_iload e_X8_raise_6.2.1 1 rfl ?_
    refine R_imul e_X8_raise_6.2.2.1 ?_
    refine R_iadd e_X8_raise_6.2.2.2.1 ?_
    obtain ⟨q13, h⟩ := h
    refine R_iast 6 WX_ok e_X8_raise_6.2.2.2.2.1 kxa_60 q13 ?_
    refine R_aload_n e_X8_raise_6.2.2.2.2.2.1 3 rfl ?_
    refine R_getA 8 4 61 e_X8_raise_6.2.2.2.2.2.2.1 f_X8_22 kx_58 (fun _ _ => rfl) rx_58_4 (by decide) ?_
    refine R_iload e_X8_raise_6.2.2.2.2.2.2.2.1 9 rfl ?_
    refine R_iload_n e_X8_raise_6.2.2.2.2.2.2.2.2.1 5 rfl ?_
    refine R_aload_n e_X8_raise_6.2.2.2.2.2.2.2.2.2 4 rfl ?_
    refine R_getI 0 2 2 e_X8_raise_7.1 f_X8_81 (kC_self hc) (fun _ _ => rfl) rfl ?_
    obtain ⟨q14, h⟩ := h
    obtain ⟨q15, h⟩ := h
    refine R_icmp_ne 144 e_X8_raise_7.2.1 (by decide) q14 q15 (fun q => ?_) (fun q => ?_)
    · replace h := h.1 q
      refine R_aload e_X8_raise_7.2.2.2.2.2.2.2.2.2 2 rfl ?_
      refine R_getI 3 3 3 e_X8_raise_8.1 f_X8_84 (kC_kite hc q7) (fun _ _ => rfl) rfl ?_
      obtain ⟨q16, h⟩ := h
      refine R_iast 6 WX_ok e_X8_raise_8.2.1 kxa_61 q16 ?_
      refine R_iload e_X8_raise_8.2.2.1 7 rfl ?_
      refine R_aload e_X8_raise_8.2.2.2.1 2 rfl ?_
      refine R_getI 3 5 5 e_X8_raise_8.2.2.2.2.1 f_X8_93 (kC_kite hc q7) (fun _ _ => rfl) rfl ?_
      obtain ⟨q17, h⟩ := h
      obtain ⟨q18, h⟩ := h
      refine R_icmp_lt 173 e_X8_raise_8.2.2.2.2.2.1 (by decide) q17 q18 (fun q => ?_) (fun q => ?_)
      · replace h := h.1 q
        refine R_iinc (ls2 := [(6, vI (l6 + 1)), (9, vI ((l5 + (σ (c + 6 + l6) 6)) % 8)), (8, vI (((σ (c + 6 + l6) 4) * l4) / 3)), (7, vA G (c + 6 + l6)), (0, vA G 58), (1, vA G c), (2, vI l2), (3, vI l3), (4, vI l4), (5, vI l5)]) e_X8_raise_9.2.2.2.2.1 9 rfl (by decide) rfl ?_
        refine R_goto 29 e_X8_raise_9.2.2.2.2.2.1 (by decide) ?_
        refine R_ls (ls2 := [(0, vA G 58), (1, vA G c), (2, vI l2), (3, vI l3), (4, vI l4), (5, vI l5), (6, vI (l6 + 1))]) [4, 5, 6, 7, 8, 9, 0] rfl ?_
        exact h
      · replace h := h.2 q
        refine R_aload_n e_X8_raise_8.2.2.2.2.2.2.1 3 rfl ?_
        refine R_dup e_X8_raise_8.2.2.2.2.2.2.2.1 rfl ?_
        refine R_getI 8 1 1 e_X8_raise_8.2.2.2.2.2.2.2.2.1 f_X8_9 kx_58 (fun _ _ => rfl) rfl ?_
        refine R_iconst e_X8_raise_8.2.2.2.2.2.2.2.2.2 ?_
        refine R_iload e_X8_raise_9.1 9 rfl ?_
        refine R_ishl e_X8_raise_9.2.1 ?_
        refine R_ior e_X8_raise_9.2.2.1 ?_
        refine R_putI 8 1 1 WX_ok e_X8_raise_9.2.2.2.1 f_X8_9 kx_58 rfl rfl rfl ?_
        refine R_iinc (ls2 := [(6, vI (l6 + 1)), (9, vI ((l5 + (σ (c + 6 + l6) 6)) % 8)), (8, vI (((σ (c + 6 + l6) 4) * l4) / 3)), (7, vA G (c + 6 + l6)), (0, vA G 58), (1, vA G c), (2, vI l2), (3, vI l3), (4, vI l4), (5, vI l5)]) e_X8_raise_9.2.2.2.2.1 9 rfl (by decide) rfl ?_
        refine R_goto 29 e_X8_raise_9.2.2.2.2.2.1 (by decide) ?_
        refine R_ls (ls2 := [(0, vA G 58), (1, vA G c), (2, vI l2), (3, vI l3), (4, vI l4), (5, vI l5), (6, vI (l6 + 1))]) [4, 5, 6, 7, 8, 9, 0] rfl ?_
        exact h
    · replace h := h.2 q
      refine R_iconst e_X8_raise_7.2.2.1 ?_
      refine R_aload e_X8_raise_7.2.2.2.1 2 rfl ?_
      refine R_getI 3 3 3 e_X8_raise_7.2.2.2.2.1 f_X8_84 (kC_kite hc q7) (fun _ _ => rfl) rfl ?_
      refine R_iconst e_X8_raise_7.2.2.2.2.2.1 ?_
      refine R_isub e_X8_raise_7.2.2.2.2.2.2.1 ?_
      refine R_callS (mc := 0) (ms := 0) (mc' := 0) (ms' := 0) (M' := M_J9_max_7cf53) (d' := 0) (as := [vI 0, vI (((kup (kup σ 59 l6 ((σ (c + 6 + l6) 1) + ((kst2 ((l5 + (σ (c + 6 + l6) 6)) % 8)) * (((σ (c + 6 + l6) 4) * l4) / 3)))) 60 l6 (((kup σ 59 l6 ((σ (c + 6 + l6) 1) + ((kst2 ((l5 + (σ (c + 6 + l6) 6)) % 8)) * (((σ (c + 6 + l6) 4) * l4) / 3)))) (c + 6 + l6) 2) + ((kst3 ((l5 + (σ (c + 6 + l6) 6)) % 8)) * (((σ (c + 6 + l6) 4) * l4) / 3)))) (c + 6 + l6) 3) - 1)]) (st := [vI l6, vA G 61]) 2 e_X8_raise_7.2.2.2.2.2.2.2.1 (kCSof m_J9_max_7cf53 l_X8_87) (by decide) (by decide) rfl rfl (by show (2 : Nat) ≤ 8; decide) ?_
      refine Run.mono h (fun r19 s20 h => ?_)
      refine R_eqs (st2 := [vI r19, vI l6, vA G 61]) rfl rfl ?_
      refine R_goto 149 e_X8_raise_7.2.2.2.2.2.2.2.2.1 (by decide) ?_
      obtain ⟨q21, h⟩ := h
      refine R_iast 6 WX_ok e_X8_raise_8.2.1 kxa_61 q21 ?_
      refine R_iload e_X8_raise_8.2.2.1 7 rfl ?_
      refine R_aload e_X8_raise_8.2.2.2.1 2 rfl ?_
      refine R_getI 3 5 5 e_X8_raise_8.2.2.2.2.1 f_X8_93 (kC_kite hc q7) (fun _ _ => rfl) rfl ?_
      obtain ⟨q22, h⟩ := h
      obtain ⟨q23, h⟩ := h
      refine R_icmp_lt 173 e_X8_raise_8.2.2.2.2.2.1 (by decide) q22 q23 (fun q => ?_) (fun q => ?_)
      · replace h := h.1 q
        refine R_iinc (ls2 := [(6, vI (l6 + 1)), (9, vI ((l5 + (σ (c + 6 + l6) 6)) % 8)), (8, vI (((σ (c + 6 + l6) 4) * l4) / 3)), (7, vA G (c + 6 + l6)), (0, vA G 58), (1, vA G c), (2, vI l2), (3, vI l3), (4, vI l4), (5, vI l5)]) e_X8_raise_9.2.2.2.2.1 9 rfl (by decide) rfl ?_
        refine R_goto 29 e_X8_raise_9.2.2.2.2.2.1 (by decide) ?_
        refine R_ls (ls2 := [(0, vA G 58), (1, vA G c), (2, vI l2), (3, vI l3), (4, vI l4), (5, vI l5), (6, vI (l6 + 1))]) [4, 5, 6, 7, 8, 9, 0] rfl ?_
        exact h
      · replace h := h.2 q
        refine R_aload_n e_X8_raise_8.2.2.2.2.2.2.1 3 rfl ?_
        refine R_dup e_X8_raise_8.2.2.2.2.2.2.2.1 rfl ?_
        refine R_getI 8 1 1 e_X8_raise_8.2.2.2.2.2.2.2.2.1 f_X8_9 kx_58 (fun _ _ => rfl) rfl ?_
        refine R_iconst e_X8_raise_8.2.2.2.2.2.2.2.2.2 ?_
        refine R_iload e_X8_raise_9.1 9 rfl ?_
        refine R_ishl e_X8_raise_9.2.1 ?_
        refine R_ior e_X8_raise_9.2.2.1 ?_
        refine R_putI 8 1 1 WX_ok e_X8_raise_9.2.2.2.1 f_X8_9 kx_58 rfl rfl rfl ?_
        refine R_iinc (ls2 := [(6, vI (l6 + 1)), (9, vI ((l5 + (σ (c + 6 + l6) 6)) % 8)), (8, vI (((σ (c + 6 + l6) 4) * l4) / 3)), (7, vA G (c + 6 + l6)), (0, vA G 58), (1, vA G c), (2, vI l2), (3, vI l3), (4, vI l4), (5, vI l5)]) e_X8_raise_9.2.2.2.2.1 9 rfl (by decide) rfl ?_
        refine R_goto 29 e_X8_raise_9.2.2.2.2.2.1 (by decide) ?_
        refine R_ls (ls2 := [(0, vA G 58), (1, vA G c), (2, vI l2), (3, vI l3), (4, vI l4), (5, vI l5), (6, vI (l6 + 1))]) [4, 5, 6, 7, 8, 9, 0] rfl ?_
        exact h
/-! KiteLand$Sky.drop(I)V -/
theorem e_X8_drop_0 : decode cX8_drop 0 = .ok (.aload_n 0, 1) ∧ decode cX8_drop 1 = .ok (.dup, 1) ∧ decode cX8_drop 2 = .ok (.getfield 9, 3) ∧ decode cX8_drop 5 = .ok (.iload_n 1, 1) ∧ decode cX8_drop 6 = .ok (.iconst (-1), 1) ∧ decode cX8_drop 7 = .ok (.ixor, 1) ∧ decode cX8_drop 8 = .ok (.iand, 1) ∧ decode cX8_drop 9 = .ok (.putfield 9, 3) ∧ decode cX8_drop 12 = .ok (.return_, 1) := by decide +kernel
theorem S_X8_drop {G : Kg} {σ : Kmem} {Q : Int → Kmem → Prop} {l1 : Int}  (h : Q 0 (kup σ 58 1 (kand (σ 58 1) (kxor l1 (-1))))) : Run G WX M_X8_drop 0 0 0 [vA G 58, vI l1] σ Q := by
  refine Run.of (by decide +kernel) (by show (2 : Nat) ≤ 2; decide) ?_
  show Ex G WX M_X8_drop 0 0 0 0 [(0, vA G 58), (1, vI l1)] [] σ Q
  refine R_aload_n e_X8_drop_0.1 0 rfl ?_
  refine R_dup e_X8_drop_0.2.1 rfl ?_
  refine R_getI 8 1 1 e_X8_drop_0.2.2.1 f_X8_9 kx_58 (fun _ _ => rfl) rfl ?_
  refine R_iload_n e_X8_drop_0.2.2.2.1 1 rfl ?_
  refine R_iconst e_X8_drop_0.2.2.2.2.1 ?_
  refine R_ixor e_X8_drop_0.2.2.2.2.2.1 ?_
  refine R_iand e_X8_drop_0.2.2.2.2.2.2.1 ?_
  refine R_putI 8 1 1 WX_ok e_X8_drop_0.2.2.2.2.2.2.2.1 f_X8_9 kx_58 rfl rfl rfl ?_
  exact R_return e_X8_drop_0.2.2.2.2.2.2.2.2 rfl h
/-! KiteLand$Sky.castShade()V -/
theorem e_X8_castShade_0 : decode cX8_castShade 0 = .ok (.iconst 0, 1) ∧ decode cX8_castShade 1 = .ok (.istore_n 1, 1) ∧ decode cX8_castShade 2 = .ok (.iload_n 1, 1) ∧ decode cX8_castShade 3 = .ok (.bipush 63, 2) ∧ decode cX8_castShade 5 = .ok (.if_icmp .ge 23, 3) ∧ decode cX8_castShade 8 = .ok (.aload_n 0, 1) ∧ decode cX8_castShade 9 = .ok (.getfield 25, 3) ∧ decode cX8_castShade 12 = .ok (.iload_n 1, 1) ∧ decode cX8_castShade 13 = .ok (.iconst 0, 1) ∧ decode cX8_castShade 14 = .ok (.iastore, 1) := by decide +kernel
theorem e_X8_castShade_1 : decode cX8_castShade 15 = .ok (.aload_n 0, 1) ∧ decode cX8_castShade 16 = .ok (.getfield 28, 3) ∧ decode cX8_castShade 19 = .ok (.iload_n 1, 1) ∧ decode cX8_castShade 20 = .ok (.iconst (-1), 1) ∧ decode cX8_castShade 21 = .ok (.iastore, 1) ∧ decode cX8_castShade 22 = .ok (.iinc 1 1, 3) ∧ decode cX8_castShade 25 = .ok (.goto (-23), 3) ∧ decode cX8_castShade 28 = .ok (.iconst 0, 1) ∧ decode cX8_castShade 29 = .ok (.istore_n 1, 1) ∧ decode cX8_castShade 30 = .ok (.iload_n 1, 1) := by decide +kernel
theorem e_X8_castShade_2 : decode cX8_castShade 31 = .ok (.aload_n 0, 1) ∧ decode cX8_castShade 32 = .ok (.getfield 31, 3) ∧ decode cX8_castShade 35 = .ok (.getfield 54, 3) ∧ decode cX8_castShade 38 = .ok (.if_icmp .ge 22, 3) ∧ decode cX8_castShade 41 = .ok (.aload_n 0, 1) ∧ decode cX8_castShade 42 = .ok (.iload_n 1, 1) ∧ decode cX8_castShade 43 = .ok (.invokevirtual 100, 3) ∧ decode cX8_castShade 46 = .ok (.ifCond .eq 8, 3) ∧ decode cX8_castShade 49 = .ok (.aload_n 0, 1) ∧ decode cX8_castShade 50 = .ok (.iload_n 1, 1) := by decide +kernel
theorem e_X8_castShade_3 : decode cX8_castShade 51 = .ok (.invokevirtual 104, 3) ∧ decode cX8_castShade 54 = .ok (.iinc 1 1, 3) ∧ decode cX8_castShade 57 = .ok (.goto (-27), 3) ∧ decode cX8_castShade 60 = .ok (.return_, 1) := by decide +kernel
abbrev E_X8_castShade_2 (G : Kg) (l1 : Int) (σ : Kmem) (Q : Int → Kmem → Prop) : Prop := Ex G WX M_X8_castShade 2 0 0 2 [(0, vA G 58), (1, vI l1)] [] σ Q
abbrev E_X8_castShade_30 (G : Kg) (l1 : Int) (σ : Kmem) (Q : Int → Kmem → Prop) : Prop := Ex G WX M_X8_castShade 2 0 0 30 [(0, vA G 58), (1, vI l1)] [] σ Q
theorem S_X8_castShade {G : Kg} {σ : Kmem} {Q : Int → Kmem → Prop} {c : Int} (hc : isC c) (h : E_X8_castShade_2 G 0 σ Q) : Run G WX M_X8_castShade 2 0 0 [vA G 58] σ Q := by
  refine Run.of (by decide +kernel) (by show (1 : Nat) ≤ 2; decide) ?_
  show Ex G WX M_X8_castShade 2 0 0 0 [(0, vA G 58)] [] σ Q
  refine R_iconst e_X8_castShade_0.1 ?_
  refine R_istore_n (ls2 := [(1, vI 0), (0, vA G 58)]) e_X8_castShade_0.2.1 (by decide) rfl ?_
  refine R_ls (ls2 := [(0, vA G 58), (1, vI 0)]) [1, 0] rfl ?_
  exact h
theorem S_X8_castShade_2 {G : Kg} {σ : Kmem} {Q : Int → Kmem → Prop} {c l1 : Int} (hc : isC c) (h : (rI l1) ∧ ((63 ≤ l1 → E_X8_castShade_30 G 0 σ Q) ∧ (l1 < 63 → (0 ≤ l1 ∧ l1 < 63) ∧ (0 ≤ l1 ∧ l1 < 63) ∧ E_X8_castShade_2 G (l1 + 1) (kup (kup σ 62 l1 0) 63 l1 (-1)) Q))) : E_X8_castShade_2 G l1 σ Q := by
  refine R_iload_n e_X8_castShade_0.2.2.1 1 rfl ?_
  refine R_bipush e_X8_castShade_0.2.2.2.1 (by decide) ?_
  obtain ⟨q1, h⟩ := h
  refine R_icmp_ge 28 e_X8_castShade_0.2.2.2.2.1 (by decide) q1 (by decide) (fun q => ?_) (fun q => ?_)
  · replace h := h.1 q
    refine R_iconst e_X8_castShade_1.2.2.2.2.2.2.2.1 ?_
    refine R_istore_n (ls2 := [(1, vI 0), (0, vA G 58)]) e_X8_castShade_1.2.2.2.2.2.2.2.2.1 (by decide) rfl ?_
    refine R_ls (ls2 := [(0, vA G 58), (1, vI 0)]) [1, 0] rfl ?_
    exact h
  · replace h := h.2 q
    refine R_aload_n e_X8_castShade_0.2.2.2.2.2.1 0 rfl ?_
    refine R_getA 8 5 62 e_X8_castShade_0.2.2.2.2.2.2.1 f_X8_25 kx_58 (fun _ _ => rfl) rx_58_5 (by decide) ?_
    refine R_iload_n e_X8_castShade_0.2.2.2.2.2.2.2.1 1 rfl ?_
    refine R_iconst e_X8_castShade_0.2.2.2.2.2.2.2.2.1 ?_
    obtain ⟨q2, h⟩ := h
    refine R_iast 63 WX_ok e_X8_castShade_0.2.2.2.2.2.2.2.2.2 kxa_62 q2 ?_
    refine R_aload_n e_X8_castShade_1.1 0 rfl ?_
    refine R_getA 8 6 63 e_X8_castShade_1.2.1 f_X8_28 kx_58 (fun _ _ => rfl) rx_58_6 (by decide) ?_
    refine R_iload_n e_X8_castShade_1.2.2.1 1 rfl ?_
    refine R_iconst e_X8_castShade_1.2.2.2.1 ?_
    obtain ⟨q3, h⟩ := h
    refine R_iast 63 WX_ok e_X8_castShade_1.2.2.2.2.1 kxa_63 q3 ?_
    refine R_iinc (ls2 := [(1, vI (l1 + 1)), (0, vA G 58)]) e_X8_castShade_1.2.2.2.2.2.1 1 rfl (by decide) rfl ?_
    refine R_goto 2 e_X8_castShade_1.2.2.2.2.2.2.1 (by decide) ?_
    refine R_ls (ls2 := [(0, vA G 58), (1, vI (l1 + 1))]) [1, 0] rfl ?_
    exact h
theorem S_X8_castShade_30 {G : Kg} {σ : Kmem} {Q : Int → Kmem → Prop} {c l1 : Int} (hc : isC c) (h : (σ 58 0 = c) ∧ (rI l1) ∧ (rI (σ c 5)) ∧ ((σ c 5 ≤ l1 → Q 0 σ) ∧ (l1 < σ c 5 → Run G WX M_X8_isUp 0 0 0 [vA G 58, vI l1] σ (fun r7 s8 => (rI r7) ∧ ((r7 = 0 → E_X8_castShade_30 G (l1 + 1) s8 Q) ∧ (r7 ≠ 0 → Run G WX M_X8_castShadeOf 1 0 0 [vA G 58, vI l1] s8 (fun r10 s11 => E_X8_castShade_30 G (l1 + 1) s11 Q))))))) : E_X8_castShade_30 G l1 σ Q := by
  refine R_iload_n e_X8_castShade_1.2.2.2.2.2.2.2.2.2 1 rfl ?_
  refine R_aload_n e_X8_castShade_2.1 0 rfl ?_
  obtain ⟨q4, h⟩ := h
  refine R_getA 8 0 c e_X8_castShade_2.2.1 f_X8_31 kx_58 (fun _ _ => rfl) ((sky_c _).trans q4) (isC_n hc) ?_
  refine R_getI 0 5 5 e_X8_castShade_2.2.2.1 f_X8_54 (kC_self hc) (fun _ _ => rfl) rfl ?_
  obtain ⟨q5, h⟩ := h
  obtain ⟨q6, h⟩ := h
  refine R_icmp_ge 60 e_X8_castShade_2.2.2.2.1 (by decide) q5 q6 (fun q => ?_) (fun q => ?_)
  · replace h := h.1 q
    exact R_return e_X8_castShade_3.2.2.2 rfl h
  · replace h := h.2 q
    refine R_aload_n e_X8_castShade_2.2.2.2.2.1 0 rfl ?_
    refine R_iload_n e_X8_castShade_2.2.2.2.2.2.1 1 rfl ?_
    refine R_callV (mc := 0) (ms := 0) (mc' := 0) (ms' := 0) (M' := M_X8_isUp) (d' := 0) (as := [vI l1]) (st := []) 8 1 e_X8_castShade_2.2.2.2.2.2.2.1 (kCVof m_X8_isUp l_X8_100) rfl (by decide) kx_58 (by decide) (by decide) rfl rfl (by show (0 : Nat) ≤ 8; decide) ?_
    refine Run.mono h (fun r7 s8 h => ?_)
    refine R_eqs (st2 := [vI r7]) rfl rfl ?_
    obtain ⟨q9, h⟩ := h
    refine R_if_eq 54 e_X8_castShade_2.2.2.2.2.2.2.2.1 (by decide) q9  (fun q => ?_) (fun q => ?_)
    · replace h := h.1 q
      refine R_iinc (ls2 := [(1, vI (l1 + 1)), (0, vA G 58)]) e_X8_castShade_3.2.1 1 rfl (by decide) rfl ?_
      refine R_goto 30 e_X8_castShade_3.2.2.1 (by decide) ?_
      refine R_ls (ls2 := [(0, vA G 58), (1, vI (l1 + 1))]) [1, 0] rfl ?_
      exact h
    · replace h := h.2 q
      refine R_aload_n e_X8_castShade_2.2.2.2.2.2.2.2.2.1 0 rfl ?_
      refine R_iload_n e_X8_castShade_2.2.2.2.2.2.2.2.2.2 1 rfl ?_
      refine R_callV (mc := 0) (ms := 0) (mc' := 0) (ms' := 0) (M' := M_X8_castShadeOf) (d' := 1) (as := [vI l1]) (st := []) 8 1 e_X8_castShade_3.1 (kCVof m_X8_castShadeOf l_X8_104) rfl (by decide) kx_58 (by decide) (by decide) rfl rfl (by show (0 : Nat) ≤ 8; decide) ?_
      refine Run.mono h (fun r10 s11 h => ?_)
      refine R_eqs (st2 := []) rfl rfl ?_
      refine R_iinc (ls2 := [(1, vI (l1 + 1)), (0, vA G 58)]) e_X8_castShade_3.2.1 1 rfl (by decide) rfl ?_
      refine R_goto 30 e_X8_castShade_3.2.2.1 (by decide) ?_
      refine R_ls (ls2 := [(0, vA G 58), (1, vI (l1 + 1))]) [1, 0] rfl ?_
      exact h
/-! KiteLand$Sky.castShadeOf(I)V -/
theorem e_X8_castShadeOf_0 : decode cX8_castShadeOf 0 = .ok (.aload_n 0, 1) ∧ decode cX8_castShadeOf 1 = .ok (.getfield 31, 3) ∧ decode cX8_castShadeOf 4 = .ok (.getfield 107, 3) ∧ decode cX8_castShadeOf 7 = .ok (.iconst 1, 1) ∧ decode cX8_castShadeOf 8 = .ok (.isub, 1) ∧ decode cX8_castShadeOf 9 = .ok (.aload_n 0, 1) ∧ decode cX8_castShadeOf 10 = .ok (.getfield 19, 3) ∧ decode cX8_castShadeOf 13 = .ok (.iload_n 1, 1) ∧ decode cX8_castShadeOf 14 = .ok (.iaload, 1) ∧ decode cX8_castShadeOf 15 = .ok (.aload_n 0, 1) := by decide +kernel
theorem e_X8_castShadeOf_1 : decode cX8_castShadeOf 16 = .ok (.getfield 22, 3) ∧ decode cX8_castShadeOf 19 = .ok (.iload_n 1, 1) ∧ decode cX8_castShadeOf 20 = .ok (.iaload, 1) ∧ decode cX8_castShadeOf 21 = .ok (.iadd, 1) ∧ decode cX8_castShadeOf 22 = .ok (.invokestatic 110, 3) ∧ decode cX8_castShadeOf 25 = .ok (.istore_n 2, 1) ∧ decode cX8_castShadeOf 26 = .ok (.aload_n 0, 1) ∧ decode cX8_castShadeOf 27 = .ok (.getfield 31, 3) ∧ decode cX8_castShadeOf 30 = .ok (.getfield 113, 3) ∧ decode cX8_castShadeOf 33 = .ok (.iconst 1, 1) := by decide +kernel
theorem e_X8_castShadeOf_2 : decode cX8_castShadeOf 34 = .ok (.isub, 1) ∧ decode cX8_castShadeOf 35 = .ok (.aload_n 0, 1) ∧ decode cX8_castShadeOf 36 = .ok (.getfield 15, 3) ∧ decode cX8_castShadeOf 39 = .ok (.iload_n 1, 1) ∧ decode cX8_castShadeOf 40 = .ok (.iaload, 1) ∧ decode cX8_castShadeOf 41 = .ok (.aload_n 0, 1) ∧ decode cX8_castShadeOf 42 = .ok (.getfield 22, 3) ∧ decode cX8_castShadeOf 45 = .ok (.iload_n 1, 1) ∧ decode cX8_castShadeOf 46 = .ok (.iaload, 1) ∧ decode cX8_castShadeOf 47 = .ok (.iadd, 1) := by decide +kernel
theorem e_X8_castShadeOf_3 : decode cX8_castShadeOf 48 = .ok (.invokestatic 110, 3) ∧ decode cX8_castShadeOf 51 = .ok (.istore_n 3, 1) ∧ decode cX8_castShadeOf 52 = .ok (.iconst 0, 1) ∧ decode cX8_castShadeOf 53 = .ok (.aload_n 0, 1) ∧ decode cX8_castShadeOf 54 = .ok (.getfield 19, 3) ∧ decode cX8_castShadeOf 57 = .ok (.iload_n 1, 1) ∧ decode cX8_castShadeOf 58 = .ok (.iaload, 1) ∧ decode cX8_castShadeOf 59 = .ok (.aload_n 0, 1) ∧ decode cX8_castShadeOf 60 = .ok (.getfield 22, 3) ∧ decode cX8_castShadeOf 63 = .ok (.iload_n 1, 1) := by decide +kernel
theorem e_X8_castShadeOf_4 : decode cX8_castShadeOf 64 = .ok (.iaload, 1) ∧ decode cX8_castShadeOf 65 = .ok (.isub, 1) ∧ decode cX8_castShadeOf 66 = .ok (.invokestatic 87, 3) ∧ decode cX8_castShadeOf 69 = .ok (.istore 4, 2) ∧ decode cX8_castShadeOf 71 = .ok (.iload 4, 2) ∧ decode cX8_castShadeOf 73 = .ok (.iload_n 2, 1) ∧ decode cX8_castShadeOf 74 = .ok (.if_icmp .gt 77, 3) ∧ decode cX8_castShadeOf 77 = .ok (.iconst 0, 1) ∧ decode cX8_castShadeOf 78 = .ok (.aload_n 0, 1) ∧ decode cX8_castShadeOf 79 = .ok (.getfield 15, 3) := by decide +kernel
theorem e_X8_castShadeOf_5 : decode cX8_castShadeOf 82 = .ok (.iload_n 1, 1) ∧ decode cX8_castShadeOf 83 = .ok (.iaload, 1) ∧ decode cX8_castShadeOf 84 = .ok (.aload_n 0, 1) ∧ decode cX8_castShadeOf 85 = .ok (.getfield 22, 3) ∧ decode cX8_castShadeOf 88 = .ok (.iload_n 1, 1) ∧ decode cX8_castShadeOf 89 = .ok (.iaload, 1) ∧ decode cX8_castShadeOf 90 = .ok (.isub, 1) ∧ decode cX8_castShadeOf 91 = .ok (.invokestatic 87, 3) ∧ decode cX8_castShadeOf 94 = .ok (.istore 5, 2) ∧ decode cX8_castShadeOf 96 = .ok (.iload 5, 2) := by decide +kernel
theorem e_X8_castShadeOf_6 : decode cX8_castShadeOf 98 = .ok (.iload_n 3, 1) ∧ decode cX8_castShadeOf 99 = .ok (.if_icmp .gt 46, 3) ∧ decode cX8_castShadeOf 102 = .ok (.iload 4, 2) ∧ decode cX8_castShadeOf 104 = .ok (.bipush 9, 2) ∧ decode cX8_castShadeOf 106 = .ok (.imul, 1) ∧ decode cX8_castShadeOf 107 = .ok (.iload 5, 2) ∧ decode cX8_castShadeOf 109 = .ok (.iadd, 1) ∧ decode cX8_castShadeOf 110 = .ok (.istore 6, 2) ∧ decode cX8_castShadeOf 112 = .ok (.aload_n 0, 1) ∧ decode cX8_castShadeOf 113 = .ok (.getfield 28, 3) := by decide +kernel
theorem e_X8_castShadeOf_7 : decode cX8_castShadeOf 116 = .ok (.iload 6, 2) ∧ decode cX8_castShadeOf 118 = .ok (.aload_n 0, 1) ∧ decode cX8_castShadeOf 119 = .ok (.iload 6, 2) ∧ decode cX8_castShadeOf 121 = .ok (.iload_n 1, 1) ∧ decode cX8_castShadeOf 122 = .ok (.invokevirtual 116, 3) ∧ decode cX8_castShadeOf 125 = .ok (.iastore, 1) ∧ decode cX8_castShadeOf 126 = .ok (.aload_n 0, 1) ∧ decode cX8_castShadeOf 127 = .ok (.getfield 25, 3) ∧ decode cX8_castShadeOf 130 = .ok (.iload 6, 2) ∧ decode cX8_castShadeOf 132 = .ok (.dup2, 1) := by decide +kernel
theorem e_X8_castShadeOf_8 : decode cX8_castShadeOf 133 = .ok (.iaload, 1) ∧ decode cX8_castShadeOf 134 = .ok (.iconst 1, 1) ∧ decode cX8_castShadeOf 135 = .ok (.iload_n 1, 1) ∧ decode cX8_castShadeOf 136 = .ok (.ishl, 1) ∧ decode cX8_castShadeOf 137 = .ok (.ior, 1) ∧ decode cX8_castShadeOf 138 = .ok (.iastore, 1) ∧ decode cX8_castShadeOf 139 = .ok (.iinc 5 1, 3) ∧ decode cX8_castShadeOf 142 = .ok (.goto (-46), 3) ∧ decode cX8_castShadeOf 145 = .ok (.iinc 4 1, 3) ∧ decode cX8_castShadeOf 148 = .ok (.goto (-77), 3) := by decide +kernel
theorem e_X8_castShadeOf_9 : decode cX8_castShadeOf 151 = .ok (.return_, 1) := by decide +kernel
abbrev E_X8_castShadeOf_71 (G : Kg) (l1 l2 l3 l4 : Int) (σ : Kmem) (Q : Int → Kmem → Prop) : Prop := Ex G WX M_X8_castShadeOf 1 0 0 71 [(0, vA G 58), (1, vI l1), (2, vI l2), (3, vI l3), (4, vI l4)] [] σ Q
abbrev E_X8_castShadeOf_96 (G : Kg) (l1 l2 l3 l4 l5 : Int) (σ : Kmem) (Q : Int → Kmem → Prop) : Prop := Ex G WX M_X8_castShadeOf 1 0 0 96 [(0, vA G 58), (1, vI l1), (2, vI l2), (3, vI l3), (4, vI l4), (5, vI l5)] [] σ Q
theorem S_X8_castShadeOf {G : Kg} {σ : Kmem} {Q : Int → Kmem → Prop} {l1 c : Int} (hc : isC c) (h : (σ 58 0 = c) ∧ (0 ≤ l1 ∧ l1 < 6) ∧ (0 ≤ l1 ∧ l1 < 6) ∧ Run G WX M_J9_min_7cf53 0 0 0 [vI ((σ c 1) - 1), vI ((σ 60 l1) + (σ 61 l1))] σ (fun r4 s5 => (s5 58 0 = c) ∧ (0 ≤ l1 ∧ l1 < 6) ∧ (0 ≤ l1 ∧ l1 < 6) ∧ Run G WX M_J9_min_7cf53 0 0 0 [vI ((s5 c 0) - 1), vI ((s5 59 l1) + (s5 61 l1))] s5 (fun r9 s10 => (0 ≤ l1 ∧ l1 < 6) ∧ (0 ≤ l1 ∧ l1 < 6) ∧ Run G WX M_J9_max_7cf53 0 0 0 [vI 0, vI ((s10 60 l1) - (s10 61 l1))] s10 (fun r13 s14 => E_X8_castShadeOf_71 G l1 r4 r9 r13 s14 Q)))) : Run G WX M_X8_castShadeOf 1 0 0 [vA G 58, vI l1] σ Q := by
  refine Run.of (by decide +kernel) (by show (2 : Nat) ≤ 7; decide) ?_
  show Ex G WX M_X8_castShadeOf 1 0 0 0 [(0, vA G 58), (1, vI l1)] [] σ Q
  refine R_aload_n e_X8_castShadeOf_0.1 0 rfl ?_
  obtain ⟨q1, h⟩ := h
  refine R_getA 8 0 c e_X8_castShadeOf_0.2.1 f_X8_31 kx_58 (fun _ _ => rfl) ((sky_c _).trans q1) (isC_n hc) ?_
  refine R_getI 0 1 1 e_X8_castShadeOf_0.2.2.1 f_X8_107 (kC_self hc) (fun _ _ => rfl) rfl ?_
  refine R_iconst e_X8_castShadeOf_0.2.2.2.1 ?_
  refine R_isub e_X8_castShadeOf_0.2.2.2.2.1 ?_
  refine R_aload_n e_X8_castShadeOf_0.2.2.2.2.2.1 0 rfl ?_
  refine R_getA 8 3 60 e_X8_castShadeOf_0.2.2.2.2.2.2.1 f_X8_19 kx_58 (fun _ _ => rfl) rx_58_3 (by decide) ?_
  refine R_iload_n e_X8_castShadeOf_0.2.2.2.2.2.2.2.1 1 rfl ?_
  obtain ⟨q2, h⟩ := h
  refine R_iald 6 e_X8_castShadeOf_0.2.2.2.2.2.2.2.2.1 kxa_60 q2 ?_
  refine R_aload_n e_X8_castShadeOf_0.2.2.2.2.2.2.2.2.2 0 rfl ?_
  refine R_getA 8 4 61 e_X8_castShadeOf_1.1 f_X8_22 kx_58 (fun _ _ => rfl) rx_58_4 (by decide) ?_
  refine R_iload_n e_X8_castShadeOf_1.2.1 1 rfl ?_
  obtain ⟨q3, h⟩ := h
  refine R_iald 6 e_X8_castShadeOf_1.2.2.1 kxa_61 q3 ?_
  refine R_iadd e_X8_castShadeOf_1.2.2.2.1 ?_
  refine R_callS (mc := 0) (ms := 0) (mc' := 0) (ms' := 0) (M' := M_J9_min_7cf53) (d' := 0) (as := [vI ((σ c 1) - 1), vI ((σ 60 l1) + (σ 61 l1))]) (st := []) 2 e_X8_castShadeOf_1.2.2.2.2.1 (kCSof m_J9_min_7cf53 l_X8_110) (by decide) (by decide) rfl rfl (by show (0 : Nat) ≤ 8; decide) ?_
  refine Run.mono h (fun r4 s5 h => ?_)
  refine R_eqs (st2 := [vI r4]) rfl rfl ?_
  refine R_istore_n (ls2 := [(2, vI r4), (0, vA G 58), (1, vI l1)]) e_X8_castShadeOf_1.2.2.2.2.2.1 (by decide) rfl ?_
  refine R_aload_n e_X8_castShadeOf_1.2.2.2.2.2.2.1 1 rfl ?_
  obtain ⟨q6, h⟩ := h
  refine R_getA 8 0 c e_X8_castShadeOf_1.2.2.2.2.2.2.2.1 f_X8_31 kx_58 (fun _ _ => rfl) ((sky_c _).trans q6) (isC_n hc) ?_
  refine R_getI 0 0 0 e_X8_castShadeOf_1.2.2.2.2.2.2.2.2.1 f_X8_113 (kC_self hc) (fun _ _ => rfl) rfl ?_
  refine R_iconst e_X8_castShadeOf_1.2.2.2.2.2.2.2.2.2 ?_
  refine R_isub e_X8_castShadeOf_2.1 ?_
  refine R_aload_n e_X8_castShadeOf_2.2.1 1 rfl ?_
  refine R_getA 8 2 59 e_X8_castShadeOf_2.2.2.1 f_X8_15 kx_58 (fun _ _ => rfl) rx_58_2 (by decide) ?_
  refine R_iload_n e_X8_castShadeOf_2.2.2.2.1 2 rfl ?_
  obtain ⟨q7, h⟩ := h
  refine R_iald 6 e_X8_castShadeOf_2.2.2.2.2.1 kxa_59 q7 ?_
  refine R_aload_n e_X8_castShadeOf_2.2.2.2.2.2.1 1 rfl ?_
  refine R_getA 8 4 61 e_X8_castShadeOf_2.2.2.2.2.2.2.1 f_X8_22 kx_58 (fun _ _ => rfl) rx_58_4 (by decide) ?_
  refine R_iload_n e_X8_castShadeOf_2.2.2.2.2.2.2.2.1 2 rfl ?_
  obtain ⟨q8, h⟩ := h
  refine R_iald 6 e_X8_castShadeOf_2.2.2.2.2.2.2.2.2.1 kxa_61 q8 ?_
  refine R_iadd e_X8_castShadeOf_2.2.2.2.2.2.2.2.2.2 ?_
  refine R_callS (mc := 0) (ms := 0) (mc' := 0) (ms' := 0) (M' := M_J9_min_7cf53) (d' := 0) (as := [vI ((s5 c 0) - 1), vI ((s5 59 l1) + (s5 61 l1))]) (st := []) 2 e_X8_castShadeOf_3.1 (kCSof m_J9_min_7cf53 l_X8_110) (by decide) (by decide) rfl rfl (by show (0 : Nat) ≤ 8; decide) ?_
  refine Run.mono h (fun r9 s10 h => ?_)
  refine R_eqs (st2 := [vI r9]) rfl rfl ?_
  refine R_istore_n (ls2 := [(3, vI r9), (2, vI r4), (0, vA G 58), (1, vI l1)]) e_X8_castShadeOf_3.2.1 (by decide) rfl ?_
  refine R_iconst e_X8_castShadeOf_3.2.2.1 ?_
  refine R_aload_n e_X8_castShadeOf_3.2.2.2.1 2 rfl ?_
  refine R_getA 8 3 60 e_X8_castShadeOf_3.2.2.2.2.1 f_X8_19 kx_58 (fun _ _ => rfl) rx_58_3 (by decide) ?_
  refine R_iload_n e_X8_castShadeOf_3.2.2.2.2.2.1 3 rfl ?_
  obtain ⟨q11, h⟩ := h
  refine R_iald 6 e_X8_castShadeOf_3.2.2.2.2.2.2.1 kxa_60 q11 ?_
  refine R_aload_n e_X8_castShadeOf_3.2.2.2.2.2.2.2.1 2 rfl ?_
  refine R_getA 8 4 61 e_X8_castShadeOf_3.2.2.2.2.2.2.2.2.1 f_X8_22 kx_58 (fun _ _ => rfl) rx_58_4 (by decide) ?_
  refine R_iload_n e_X8_castShadeOf_3.2.2.2.2.2.2.2.2.2 3 rfl ?_
  obtain ⟨q12, h⟩ := h
  refine R_iald 6 e_X8_castShadeOf_4.1 kxa_61 q12 ?_
  refine R_isub e_X8_castShadeOf_4.2.1 ?_
  refine R_callS (mc := 0) (ms := 0) (mc' := 0) (ms' := 0) (M' := M_J9_max_7cf53) (d' := 0) (as := [vI 0, vI ((s10 60 l1) - (s10 61 l1))]) (st := []) 2 e_X8_castShadeOf_4.2.2.1 (kCSof m_J9_max_7cf53 l_X8_87) (by decide) (by decide) rfl rfl (by show (0 : Nat) ≤ 8; decide) ?_
  refine Run.mono h (fun r13 s14 h => ?_)
  refine R_eqs (st2 := [vI r13]) rfl rfl ?_
  refine R_istore (ls2 := [(4, vI r13), (3, vI r9), (2, vI r4), (0, vA G 58), (1, vI l1)]) e_X8_castShadeOf_4.2.2.2.1 (by decide) rfl ?_
  refine R_ls (ls2 := [(0, vA G 58), (1, vI l1), (2, vI r4), (3, vI r9), (4, vI r13)]) [3, 4, 2, 1, 0] rfl ?_
  exact h
theorem S_X8_castShadeOf_71 {G : Kg} {σ : Kmem} {Q : Int → Kmem → Prop} {l1 c l2 l3 l4 : Int} (hc : isC c) (h : (rI l4) ∧ (rI l2) ∧ ((l2 < l4 → Q 0 σ) ∧ (l4 ≤ l2 → (0 ≤ l1 ∧ l1 < 6) ∧ (0 ≤ l1 ∧ l1 < 6) ∧ Run G WX M_J9_max_7cf53 0 0 0 [vI 0, vI ((σ 59 l1) - (σ 61 l1))] σ (fun r19 s20 => E_X8_castShadeOf_96 G l1 l2 l3 l4 r19 s20 Q)))) : E_X8_castShadeOf_71 G l1 l2 l3 l4 σ Q := by
  refine R_iload e_X8_castShadeOf_4.2.2.2.2.1 4 rfl ?_
  refine R_iload_n e_X8_castShadeOf_4.2.2.2.2.2.1 2 rfl ?_
  obtain ⟨q15, h⟩ := h
  obtain ⟨q16, h⟩ := h
  refine R_icmp_gt 151 e_X8_castShadeOf_4.2.2.2.2.2.2.1 (by decide) q15 q16 (fun q => ?_) (fun q => ?_)
  · replace h := h.1 q
    exact R_return e_X8_castShadeOf_9 rfl h
  · replace h := h.2 q
    refine R_iconst e_X8_castShadeOf_4.2.2.2.2.2.2.2.1 ?_
    refine R_aload_n e_X8_castShadeOf_4.2.2.2.2.2.2.2.2.1 0 rfl ?_
    refine R_getA 8 2 59 e_X8_castShadeOf_4.2.2.2.2.2.2.2.2.2 f_X8_15 kx_58 (fun _ _ => rfl) rx_58_2 (by decide) ?_
    refine R_iload_n e_X8_castShadeOf_5.1 1 rfl ?_
    obtain ⟨q17, h⟩ := h
    refine R_iald 6 e_X8_castShadeOf_5.2.1 kxa_59 q17 ?_
    refine R_aload_n e_X8_castShadeOf_5.2.2.1 0 rfl ?_
    refine R_getA 8 4 61 e_X8_castShadeOf_5.2.2.2.1 f_X8_22 kx_58 (fun _ _ => rfl) rx_58_4 (by decide) ?_
    refine R_iload_n e_X8_castShadeOf_5.2.2.2.2.1 1 rfl ?_
    obtain ⟨q18, h⟩ := h
    refine R_iald 6 e_X8_castShadeOf_5.2.2.2.2.2.1 kxa_61 q18 ?_
    refine R_isub e_X8_castShadeOf_5.2.2.2.2.2.2.1 ?_
    refine R_callS (mc := 0) (ms := 0) (mc' := 0) (ms' := 0) (M' := M_J9_max_7cf53) (d' := 0) (as := [vI 0, vI ((σ 59 l1) - (σ 61 l1))]) (st := []) 2 e_X8_castShadeOf_5.2.2.2.2.2.2.2.1 (kCSof m_J9_max_7cf53 l_X8_87) (by decide) (by decide) rfl rfl (by show (0 : Nat) ≤ 8; decide) ?_
    refine Run.mono h (fun r19 s20 h => ?_)
    refine R_eqs (st2 := [vI r19]) rfl rfl ?_
    refine R_istore (ls2 := [(5, vI r19), (0, vA G 58), (1, vI l1), (2, vI l2), (3, vI l3), (4, vI l4)]) e_X8_castShadeOf_5.2.2.2.2.2.2.2.2.1 (by decide) rfl ?_
    refine R_ls (ls2 := [(0, vA G 58), (1, vI l1), (2, vI l2), (3, vI l3), (4, vI l4), (5, vI r19)]) [1, 2, 3, 4, 5, 0] rfl ?_
    exact h
theorem S_X8_castShadeOf_96 {G : Kg} {σ : Kmem} {Q : Int → Kmem → Prop} {l1 c l2 l3 l4 l5 : Int} (hc : isC c) (h : (rI l5) ∧ (rI l3) ∧ ((l3 < l5 → E_X8_castShadeOf_71 G l1 l2 l3 (l4 + 1) σ Q) ∧ (l5 ≤ l3 → Run G WX M_X8_ownerWith 0 0 0 [vA G 58, vI ((l4 * 9) + l5), vI l1] σ (fun r23 s24 => (0 ≤ (l4 * 9) + l5 ∧ (l4 * 9) + l5 < 63) ∧ (0 ≤ (l4 * 9) + l5 ∧ (l4 * 9) + l5 < 63) ∧ (0 ≤ (l4 * 9) + l5 ∧ (l4 * 9) + l5 < 63) ∧ E_X8_castShadeOf_96 G l1 l2 l3 l4 (l5 + 1) (kup (kup s24 63 ((l4 * 9) + l5) r23) 62 ((l4 * 9) + l5) (kor ((kup s24 63 ((l4 * 9) + l5) r23) 62 ((l4 * 9) + l5)) (kshl 1 l1))) Q)))) : E_X8_castShadeOf_96 G l1 l2 l3 l4 l5 σ Q := by
  refine R_iload e_X8_castShadeOf_5.2.2.2.2.2.2.2.2.2 5 rfl ?_
  refine R_iload_n e_X8_castShadeOf_6.1 3 rfl ?_
  obtain ⟨q21, h⟩ := h
  obtain ⟨q22, h⟩ := h
  refine R_icmp_gt 145 e_X8_castShadeOf_6.2.1 (by decide) q21 q22 (fun q => ?_) (fun q => ?_)
  · replace h := h.1 q
    refine R_iinc (ls2 := [(4, vI (l4 + 1)), (0, vA G 58), (1, vI l1), (2, vI l2), (3, vI l3), (5, vI l5)]) e_X8_castShadeOf_8.2.2.2.2.2.2.2.2.1 4 rfl (by decide) rfl ?_
    refine R_goto 71 e_X8_castShadeOf_8.2.2.2.2.2.2.2.2.2 (by decide) ?_
    refine R_ls (ls2 := [(0, vA G 58), (1, vI l1), (2, vI l2), (3, vI l3), (4, vI (l4 + 1))]) [1, 2, 3, 4, 0] rfl ?_
    exact h
  · replace h := h.2 q
    refine R_iload e_X8_castShadeOf_6.2.2.1 4 rfl ?_
    refine R_bipush e_X8_castShadeOf_6.2.2.2.1 (by decide) ?_
    refine R_imul e_X8_castShadeOf_6.2.2.2.2.1 ?_
    refine R_iload e_X8_castShadeOf_6.2.2.2.2.2.1 5 rfl ?_
    refine R_iadd e_X8_castShadeOf_6.2.2.2.2.2.2.1 ?_
    refine R_istore (ls2 := [(6, vI ((l4 * 9) + l5)), (0, vA G 58), (1, vI l1), (2, vI l2), (3, vI l3), (4, vI l4), (5, vI l5)]) e_X8_castShadeOf_6.2.2.2.2.2.2.2.1 (by decide) rfl ?_
    refine R_aload_n e_X8_castShadeOf_6.2.2.2.2.2.2.2.2.1 1 rfl ?_
    refine R_getA 8 6 63 e_X8_castShadeOf_6.2.2.2.2.2.2.2.2.2 f_X8_28 kx_58 (fun _ _ => rfl) rx_58_6 (by decide) ?_
    refine R_iload e_X8_castShadeOf_7.1 0 rfl ?_
    refine R_aload_n e_X8_castShadeOf_7.2.1 1 rfl ?_
    refine R_iload e_X8_castShadeOf_7.2.2.1 0 rfl ?_
    refine R_iload_n e_X8_castShadeOf_7.2.2.2.1 2 rfl ?_
    refine R_callV (mc := 0) (ms := 0) (mc' := 0) (ms' := 0) (M' := M_X8_ownerWith) (d' := 0) (as := [vI ((l4 * 9) + l5), vI l1]) (st := [vI ((l4 * 9) + l5), vA G 63]) 8 2 e_X8_castShadeOf_7.2.2.2.2.1 (kCVof m_X8_ownerWith l_X8_116) rfl (by decide) kx_58 (by decide) (by decide) rfl rfl (by show (2 : Nat) ≤ 8; decide) ?_
    refine Run.mono h (fun r23 s24 h => ?_)
    refine R_eqs (st2 := [vI r23, vI ((l4 * 9) + l5), vA G 63]) rfl rfl ?_
    obtain ⟨q25, h⟩ := h
    refine R_iast 63 WX_ok e_X8_castShadeOf_7.2.2.2.2.2.1 kxa_63 q25 ?_
    refine R_aload_n e_X8_castShadeOf_7.2.2.2.2.2.2.1 1 rfl ?_
    refine R_getA 8 5 62 e_X8_castShadeOf_7.2.2.2.2.2.2.2.1 f_X8_25 kx_58 (fun _ _ => rfl) rx_58_5 (by decide) ?_
    refine R_iload e_X8_castShadeOf_7.2.2.2.2.2.2.2.2.1 0 rfl ?_
    refine R_dup2 e_X8_castShadeOf_7.2.2.2.2.2.2.2.2.2 rfl rfl ?_
    obtain ⟨q26, h⟩ := h
    refine R_iald 63 e_X8_castShadeOf_8.1 kxa_62 q26 ?_
    refine R_iconst e_X8_castShadeOf_8.2.1 ?_
    refine R_iload_n e_X8_castShadeOf_8.2.2.1 2 rfl ?_
    refine R_ishl e_X8_castShadeOf_8.2.2.2.1 ?_
    refine R_ior e_X8_castShadeOf_8.2.2.2.2.1 ?_
    obtain ⟨q27, h⟩ := h
    refine R_iast 63 WX_ok e_X8_castShadeOf_8.2.2.2.2.2.1 kxa_62 q27 ?_
    refine R_iinc (ls2 := [(5, vI (l5 + 1)), (6, vI ((l4 * 9) + l5)), (0, vA G 58), (1, vI l1), (2, vI l2), (3, vI l3), (4, vI l4)]) e_X8_castShadeOf_8.2.2.2.2.2.2.1 6 rfl (by decide) rfl ?_
    refine R_goto 96 e_X8_castShadeOf_8.2.2.2.2.2.2.2.1 (by decide) ?_
    refine R_ls (ls2 := [(0, vA G 58), (1, vI l1), (2, vI l2), (3, vI l3), (4, vI l4), (5, vI (l5 + 1))]) [2, 3, 4, 5, 6, 0] rfl ?_
    exact h
/-! KiteLand$Sky.ownerWith(II)I -/
theorem e_X8_ownerWith_0 : decode cX8_ownerWith 0 = .ok (.aload_n 0, 1) ∧ decode cX8_ownerWith 1 = .ok (.getfield 25, 3) ∧ decode cX8_ownerWith 4 = .ok (.iload_n 1, 1) ∧ decode cX8_ownerWith 5 = .ok (.iaload, 1) ∧ decode cX8_ownerWith 6 = .ok (.ifCond .ne 5, 3) ∧ decode cX8_ownerWith 9 = .ok (.iload_n 2, 1) ∧ decode cX8_ownerWith 10 = .ok (.ireturn, 1) ∧ decode cX8_ownerWith 11 = .ok (.aload_n 0, 1) ∧ decode cX8_ownerWith 12 = .ok (.getfield 28, 3) ∧ decode cX8_ownerWith 15 = .ok (.iload_n 1, 1) := by decide +kernel
theorem e_X8_ownerWith_1 : decode cX8_ownerWith 16 = .ok (.iaload, 1) ∧ decode cX8_ownerWith 17 = .ok (.istore_n 3, 1) ∧ decode cX8_ownerWith 18 = .ok (.aload_n 0, 1) ∧ decode cX8_ownerWith 19 = .ok (.getfield 31, 3) ∧ decode cX8_ownerWith 22 = .ok (.getfield 119, 3) ∧ decode cX8_ownerWith 25 = .ok (.iconst 2, 1) ∧ decode cX8_ownerWith 26 = .ok (.if_icmp .eq 8, 3) ∧ decode cX8_ownerWith 29 = .ok (.iload_n 3, 1) ∧ decode cX8_ownerWith 30 = .ok (.iconst (-1), 1) ∧ decode cX8_ownerWith 31 = .ok (.if_icmp .ne 5, 3) := by decide +kernel
theorem e_X8_ownerWith_2 : decode cX8_ownerWith 34 = .ok (.iconst (-1), 1) ∧ decode cX8_ownerWith 35 = .ok (.ireturn, 1) ∧ decode cX8_ownerWith 36 = .ok (.aload_n 0, 1) ∧ decode cX8_ownerWith 37 = .ok (.getfield 31, 3) ∧ decode cX8_ownerWith 40 = .ok (.getfield 57, 3) ∧ decode cX8_ownerWith 43 = .ok (.iload_n 2, 1) ∧ decode cX8_ownerWith 44 = .ok (.aaload, 1) ∧ decode cX8_ownerWith 45 = .ok (.getfield 84, 3) ∧ decode cX8_ownerWith 48 = .ok (.aload_n 0, 1) ∧ decode cX8_ownerWith 49 = .ok (.getfield 31, 3) := by decide +kernel
theorem e_X8_ownerWith_3 : decode cX8_ownerWith 52 = .ok (.getfield 57, 3) ∧ decode cX8_ownerWith 55 = .ok (.iload_n 3, 1) ∧ decode cX8_ownerWith 56 = .ok (.aaload, 1) ∧ decode cX8_ownerWith 57 = .ok (.getfield 84, 3) ∧ decode cX8_ownerWith 60 = .ok (.if_icmp .le 7, 3) ∧ decode cX8_ownerWith 63 = .ok (.iconst 1, 1) ∧ decode cX8_ownerWith 64 = .ok (.goto 4, 3) ∧ decode cX8_ownerWith 67 = .ok (.iconst 0, 1) ∧ decode cX8_ownerWith 68 = .ok (.istore 4, 2) ∧ decode cX8_ownerWith 70 = .ok (.aload_n 0, 1) := by decide +kernel
theorem e_X8_ownerWith_4 : decode cX8_ownerWith 71 = .ok (.getfield 31, 3) ∧ decode cX8_ownerWith 74 = .ok (.getfield 119, 3) ∧ decode cX8_ownerWith 77 = .ok (.iconst 1, 1) ∧ decode cX8_ownerWith 78 = .ok (.if_icmp .ne 12, 3) ∧ decode cX8_ownerWith 81 = .ok (.iload 4, 2) ∧ decode cX8_ownerWith 83 = .ok (.ifCond .eq 7, 3) ∧ decode cX8_ownerWith 86 = .ok (.iload_n 2, 1) ∧ decode cX8_ownerWith 87 = .ok (.goto 4, 3) ∧ decode cX8_ownerWith 90 = .ok (.iload_n 3, 1) ∧ decode cX8_ownerWith 91 = .ok (.ireturn, 1) := by decide +kernel
theorem S_X8_ownerWith {G : Kg} {σ : Kmem} {Q : Int → Kmem → Prop} {l1 l2 c : Int} (hc : isC c) (h : (0 ≤ l1 ∧ l1 < 63) ∧ (rI (σ 62 l1)) ∧ ((σ 62 l1 ≠ 0 → (0 ≤ l1 ∧ l1 < 63) ∧ (σ 58 0 = c) ∧ (rI (σ c 3)) ∧ ((σ c 3 = 2 → Q (-1) σ) ∧ (σ c 3 ≠ 2 → (rI (σ 63 l1)) ∧ ((σ 63 l1 ≠ -1 → (σ 58 0 = c) ∧ (0 ≤ l2 ∧ l2 < 6) ∧ (σ 58 0 = c) ∧ (0 ≤ σ 63 l1 ∧ σ 63 l1 < 6) ∧ (rI (σ (c + 6 + l2) 3)) ∧ (rI (σ (c + 6 + (σ 63 l1)) 3)) ∧ ((σ (c + 6 + l2) 3 ≤ σ (c + 6 + (σ 63 l1)) 3 → (σ 58 0 = c) ∧ ((σ c 3 ≠ 1 → Q (σ 63 l1) σ) ∧ (σ c 3 = 1 → Q (σ 63 l1) σ))) ∧ (σ (c + 6 + (σ 63 l1)) 3 < σ (c + 6 + l2) 3 → (σ 58 0 = c) ∧ ((σ c 3 ≠ 1 → Q (σ 63 l1) σ) ∧ (σ c 3 = 1 → Q l2 σ))))) ∧ (σ 63 l1 = -1 → Q (-1) σ))))) ∧ (σ 62 l1 = 0 → Q l2 σ))) : Run G WX M_X8_ownerWith 0 0 0 [vA G 58, vI l1, vI l2] σ Q := by
  refine Run.of (by decide +kernel) (by show (3 : Nat) ≤ 5; decide) ?_
  show Ex G WX M_X8_ownerWith 0 0 0 0 [(0, vA G 58), (1, vI l1), (2, vI l2)] [] σ Q
  refine R_aload_n e_X8_ownerWith_0.1 0 rfl ?_
  refine R_getA 8 5 62 e_X8_ownerWith_0.2.1 f_X8_25 kx_58 (fun _ _ => rfl) rx_58_5 (by decide) ?_
  refine R_iload_n e_X8_ownerWith_0.2.2.1 1 rfl ?_
  obtain ⟨q1, h⟩ := h
  refine R_iald 63 e_X8_ownerWith_0.2.2.2.1 kxa_62 q1 ?_
  obtain ⟨q2, h⟩ := h
  refine R_if_ne 11 e_X8_ownerWith_0.2.2.2.2.1 (by decide) q2  (fun q => ?_) (fun q => ?_)
  · replace h := h.1 q
    refine R_aload_n e_X8_ownerWith_0.2.2.2.2.2.2.2.1 0 rfl ?_
    refine R_getA 8 6 63 e_X8_ownerWith_0.2.2.2.2.2.2.2.2.1 f_X8_28 kx_58 (fun _ _ => rfl) rx_58_6 (by decide) ?_
    refine R_iload_n e_X8_ownerWith_0.2.2.2.2.2.2.2.2.2 1 rfl ?_
    obtain ⟨q3, h⟩ := h
    refine R_iald 63 e_X8_ownerWith_1.1 kxa_63 q3 ?_
    refine R_istore_n (ls2 := [(3, vI (σ 63 l1)), (0, vA G 58), (1, vI l1), (2, vI l2)]) e_X8_ownerWith_1.2.1 (by decide) rfl ?_
    refine R_aload_n e_X8_ownerWith_1.2.2.1 1 rfl ?_
    obtain ⟨q4, h⟩ := h
    refine R_getA 8 0 c e_X8_ownerWith_1.2.2.2.1 f_X8_31 kx_58 (fun _ _ => rfl) ((sky_c _).trans q4) (isC_n hc) ?_
    refine R_getI 0 3 3 e_X8_ownerWith_1.2.2.2.2.1 f_X8_119 (kC_self hc) (fun _ _ => rfl) rfl ?_
    refine R_iconst e_X8_ownerWith_1.2.2.2.2.2.1 ?_
    obtain ⟨q5, h⟩ := h
    refine R_icmp_eq 34 e_X8_ownerWith_1.2.2.2.2.2.2.1 (by decide) q5 (by decide) (fun q => ?_) (fun q => ?_)
    · replace h := h.1 q
      refine R_iconst e_X8_ownerWith_2.1 ?_
      exact R_ireturn e_X8_ownerWith_2.2.1 rfl h
    · replace h := h.2 q
      refine R_iload_n e_X8_ownerWith_1.2.2.2.2.2.2.2.1 0 rfl ?_
      refine R_iconst e_X8_ownerWith_1.2.2.2.2.2.2.2.2.1 ?_
      obtain ⟨q6, h⟩ := h
      refine R_icmp_ne 36 e_X8_ownerWith_1.2.2.2.2.2.2.2.2.2 (by decide) q6 (by decide) (fun q => ?_) (fun q => ?_)
      · replace h := h.1 q
        refine R_aload_n e_X8_ownerWith_2.2.2.1 1 rfl ?_
        obtain ⟨q7, h⟩ := h
        refine R_getA 8 0 c e_X8_ownerWith_2.2.2.2.1 f_X8_31 kx_58 (fun _ _ => rfl) ((sky_c _).trans q7) (isC_n hc) ?_
        refine R_getA 0 10 (c + 3) e_X8_ownerWith_2.2.2.2.2.1 f_X8_57 (kC_self hc) (fun _ _ => rfl) (kC_r10 hc) (kC_n3 hc) ?_
        refine R_iload_n e_X8_ownerWith_2.2.2.2.2.2.1 3 rfl ?_
        obtain ⟨q8, h⟩ := h
        refine R_aald 27 6 (c + 6 + l2) e_X8_ownerWith_2.2.2.2.2.2.2.1 (by decide) (kC_kites hc) q8 (kC_kiteAt hc q8) (kC_kiteN hc q8) ?_
        refine R_getI 3 3 3 e_X8_ownerWith_2.2.2.2.2.2.2.2.1 f_X8_84 (kC_kite hc q8) (fun _ _ => rfl) rfl ?_
        refine R_aload_n e_X8_ownerWith_2.2.2.2.2.2.2.2.2.1 1 rfl ?_
        obtain ⟨q9, h⟩ := h
        refine R_getA 8 0 c e_X8_ownerWith_2.2.2.2.2.2.2.2.2.2 f_X8_31 kx_58 (fun _ _ => rfl) ((sky_c _).trans q9) (isC_n hc) ?_
        refine R_getA 0 10 (c + 3) e_X8_ownerWith_3.1 f_X8_57 (kC_self hc) (fun _ _ => rfl) (kC_r10 hc) (kC_n3 hc) ?_
        refine R_iload_n e_X8_ownerWith_3.2.1 0 rfl ?_
        obtain ⟨q10, h⟩ := h
        refine R_aald 27 6 (c + 6 + (σ 63 l1)) e_X8_ownerWith_3.2.2.1 (by decide) (kC_kites hc) q10 (kC_kiteAt hc q10) (kC_kiteN hc q10) ?_
        refine R_getI 3 3 3 e_X8_ownerWith_3.2.2.2.1 f_X8_84 (kC_kite hc q10) (fun _ _ => rfl) rfl ?_
        obtain ⟨q11, h⟩ := h
        obtain ⟨q12, h⟩ := h
        refine R_icmp_le 67 e_X8_ownerWith_3.2.2.2.2.1 (by decide) q11 q12 (fun q => ?_) (fun q => ?_)
        · replace h := h.1 q
          refine R_iconst e_X8_ownerWith_3.2.2.2.2.2.2.2.1 ?_
          refine R_istore (ls2 := [(4, vI 0), (3, vI (σ 63 l1)), (0, vA G 58), (1, vI l1), (2, vI l2)]) e_X8_ownerWith_3.2.2.2.2.2.2.2.2.1 (by decide) rfl ?_
          refine R_aload_n e_X8_ownerWith_3.2.2.2.2.2.2.2.2.2 2 rfl ?_
          obtain ⟨q13, h⟩ := h
          refine R_getA 8 0 c e_X8_ownerWith_4.1 f_X8_31 kx_58 (fun _ _ => rfl) ((sky_c _).trans q13) (isC_n hc) ?_
          refine R_getI 0 3 3 e_X8_ownerWith_4.2.1 f_X8_119 (kC_self hc) (fun _ _ => rfl) rfl ?_
          refine R_iconst e_X8_ownerWith_4.2.2.1 ?_
          refine R_icmp_ne 90 e_X8_ownerWith_4.2.2.2.1 (by decide) q5 (by decide) (fun q => ?_) (fun q => ?_)
          · replace h := h.1 q
            refine R_iload_n e_X8_ownerWith_4.2.2.2.2.2.2.2.2.1 1 rfl ?_
            exact R_ireturn e_X8_ownerWith_4.2.2.2.2.2.2.2.2.2 rfl h
          · replace h := h.2 q
            refine R_iload e_X8_ownerWith_4.2.2.2.2.1 0 rfl ?_
            refine R_if_eq 90 e_X8_ownerWith_4.2.2.2.2.2.1 (by decide) (by decide)  (fun q => ?_) (fun q => absurd q (by decide))
            refine R_iload_n e_X8_ownerWith_4.2.2.2.2.2.2.2.2.1 1 rfl ?_
            exact R_ireturn e_X8_ownerWith_4.2.2.2.2.2.2.2.2.2 rfl h
        · replace h := h.2 q
          refine R_iconst e_X8_ownerWith_3.2.2.2.2.2.1 ?_
          refine R_goto 68 e_X8_ownerWith_3.2.2.2.2.2.2.1 (by decide) ?_
          refine R_istore (ls2 := [(4, vI 1), (3, vI (σ 63 l1)), (0, vA G 58), (1, vI l1), (2, vI l2)]) e_X8_ownerWith_3.2.2.2.2.2.2.2.2.1 (by decide) rfl ?_
          refine R_aload_n e_X8_ownerWith_3.2.2.2.2.2.2.2.2.2 2 rfl ?_
          obtain ⟨q14, h⟩ := h
          refine R_getA 8 0 c e_X8_ownerWith_4.1 f_X8_31 kx_58 (fun _ _ => rfl) ((sky_c _).trans q14) (isC_n hc) ?_
          refine R_getI 0 3 3 e_X8_ownerWith_4.2.1 f_X8_119 (kC_self hc) (fun _ _ => rfl) rfl ?_
          refine R_iconst e_X8_ownerWith_4.2.2.1 ?_
          refine R_icmp_ne 90 e_X8_ownerWith_4.2.2.2.1 (by decide) q5 (by decide) (fun q => ?_) (fun q => ?_)
          · replace h := h.1 q
            refine R_iload_n e_X8_ownerWith_4.2.2.2.2.2.2.2.2.1 1 rfl ?_
            exact R_ireturn e_X8_ownerWith_4.2.2.2.2.2.2.2.2.2 rfl h
          · replace h := h.2 q
            refine R_iload e_X8_ownerWith_4.2.2.2.2.1 0 rfl ?_
            refine R_if_eq 90 e_X8_ownerWith_4.2.2.2.2.2.1 (by decide) (by decide)  (fun q => absurd q (by decide)) (fun q => ?_)
            refine R_iload_n e_X8_ownerWith_4.2.2.2.2.2.2.1 4 rfl ?_
            refine R_goto 91 e_X8_ownerWith_4.2.2.2.2.2.2.2.1 (by decide) ?_
            exact R_ireturn e_X8_ownerWith_4.2.2.2.2.2.2.2.2.2 rfl h
      · replace h := h.2 q
        refine R_iconst e_X8_ownerWith_2.1 ?_
        exact R_ireturn e_X8_ownerWith_2.2.1 rfl h
  · replace h := h.2 q
    refine R_iload_n e_X8_ownerWith_0.2.2.2.2.2.1 2 rfl ?_
    exact R_ireturn e_X8_ownerWith_0.2.2.2.2.2.2.1 rfl h
/-! KiteLand$Sky.isUp(I)Z -/
theorem e_X8_isUp_0 : decode cX8_isUp 0 = .ok (.aload_n 0, 1) ∧ decode cX8_isUp 1 = .ok (.getfield 9, 3) ∧ decode cX8_isUp 4 = .ok (.iload_n 1, 1) ∧ decode cX8_isUp 5 = .ok (.ishr, 1) ∧ decode cX8_isUp 6 = .ok (.iconst 1, 1) ∧ decode cX8_isUp 7 = .ok (.iand, 1) ∧ decode cX8_isUp 8 = .ok (.iconst 1, 1) ∧ decode cX8_isUp 9 = .ok (.if_icmp .ne 7, 3) ∧ decode cX8_isUp 12 = .ok (.iconst 1, 1) ∧ decode cX8_isUp 13 = .ok (.goto 4, 3) := by decide +kernel
theorem e_X8_isUp_1 : decode cX8_isUp 16 = .ok (.iconst 0, 1) ∧ decode cX8_isUp 17 = .ok (.ireturn, 1) := by decide +kernel
theorem S_X8_isUp {G : Kg} {σ : Kmem} {Q : Int → Kmem → Prop} {l1 : Int}  (h : (rI (kand (kshr (σ 58 1) l1) 1)) ∧ ((kand (kshr (σ 58 1) l1) 1 ≠ 1 → Q 0 σ) ∧ (kand (kshr (σ 58 1) l1) 1 = 1 → Q 1 σ))) : Run G WX M_X8_isUp 0 0 0 [vA G 58, vI l1] σ Q := by
  refine Run.of (by decide +kernel) (by show (2 : Nat) ≤ 2; decide) ?_
  show Ex G WX M_X8_isUp 0 0 0 0 [(0, vA G 58), (1, vI l1)] [] σ Q
  refine R_aload_n e_X8_isUp_0.1 0 rfl ?_
  refine R_getI 8 1 1 e_X8_isUp_0.2.1 f_X8_9 kx_58 (fun _ _ => rfl) rfl ?_
  refine R_iload_n e_X8_isUp_0.2.2.1 1 rfl ?_
  refine R_ishr e_X8_isUp_0.2.2.2.1 ?_
  refine R_iconst e_X8_isUp_0.2.2.2.2.1 ?_
  refine R_iand e_X8_isUp_0.2.2.2.2.2.1 ?_
  refine R_iconst e_X8_isUp_0.2.2.2.2.2.2.1 ?_
  obtain ⟨q1, h⟩ := h
  refine R_icmp_ne 16 e_X8_isUp_0.2.2.2.2.2.2.2.1 (by decide) q1 (by decide) (fun q => ?_) (fun q => ?_)
  · replace h := h.1 q
    refine R_iconst e_X8_isUp_1.1 ?_
    exact R_zreturn e_X8_isUp_1.2 rfl (Or.inl rfl) h
  · replace h := h.2 q
    refine R_iconst e_X8_isUp_0.2.2.2.2.2.2.2.2.1 ?_
    refine R_goto 17 e_X8_isUp_0.2.2.2.2.2.2.2.2.2 (by decide) ?_
    exact R_zreturn e_X8_isUp_1.2 rfl (Or.inr rfl) h
/-! KiteLand$Sky.shadersOf(II)I -/
theorem e_X8_shadersOf_0 : decode cX8_shadersOf 0 = .ok (.aload_n 0, 1) ∧ decode cX8_shadersOf 1 = .ok (.getfield 25, 3) ∧ decode cX8_shadersOf 4 = .ok (.iload_n 2, 1) ∧ decode cX8_shadersOf 5 = .ok (.bipush 9, 2) ∧ decode cX8_shadersOf 7 = .ok (.imul, 1) ∧ decode cX8_shadersOf 8 = .ok (.iload_n 1, 1) ∧ decode cX8_shadersOf 9 = .ok (.iadd, 1) ∧ decode cX8_shadersOf 10 = .ok (.iaload, 1) ∧ decode cX8_shadersOf 11 = .ok (.ireturn, 1) := by decide +kernel
theorem S_X8_shadersOf {G : Kg} {σ : Kmem} {Q : Int → Kmem → Prop} {l1 l2 : Int}  (h : (0 ≤ (l2 * 9) + l1 ∧ (l2 * 9) + l1 < 63) ∧ Q (σ 62 ((l2 * 9) + l1)) σ) : Run G WX M_X8_shadersOf 0 0 0 [vA G 58, vI l1, vI l2] σ Q := by
  refine Run.of (by decide +kernel) (by show (3 : Nat) ≤ 3; decide) ?_
  show Ex G WX M_X8_shadersOf 0 0 0 0 [(0, vA G 58), (1, vI l1), (2, vI l2)] [] σ Q
  refine R_aload_n e_X8_shadersOf_0.1 0 rfl ?_
  refine R_getA 8 5 62 e_X8_shadersOf_0.2.1 f_X8_25 kx_58 (fun _ _ => rfl) rx_58_5 (by decide) ?_
  refine R_iload_n e_X8_shadersOf_0.2.2.1 2 rfl ?_
  refine R_bipush e_X8_shadersOf_0.2.2.2.1 (by decide) ?_
  refine R_imul e_X8_shadersOf_0.2.2.2.2.1 ?_
  refine R_iload_n e_X8_shadersOf_0.2.2.2.2.2.1 1 rfl ?_
  refine R_iadd e_X8_shadersOf_0.2.2.2.2.2.2.1 ?_
  obtain ⟨q1, h⟩ := h
  refine R_iald 63 e_X8_shadersOf_0.2.2.2.2.2.2.2.1 kxa_62 q1 ?_
  exact R_ireturn e_X8_shadersOf_0.2.2.2.2.2.2.2.2 rfl h
/-! KiteLand$Sky.ownerOf(II)I -/
theorem e_X8_ownerOf_0 : decode cX8_ownerOf 0 = .ok (.aload_n 0, 1) ∧ decode cX8_ownerOf 1 = .ok (.getfield 28, 3) ∧ decode cX8_ownerOf 4 = .ok (.iload_n 2, 1) ∧ decode cX8_ownerOf 5 = .ok (.bipush 9, 2) ∧ decode cX8_ownerOf 7 = .ok (.imul, 1) ∧ decode cX8_ownerOf 8 = .ok (.iload_n 1, 1) ∧ decode cX8_ownerOf 9 = .ok (.iadd, 1) ∧ decode cX8_ownerOf 10 = .ok (.iaload, 1) ∧ decode cX8_ownerOf 11 = .ok (.ireturn, 1) := by decide +kernel
theorem S_X8_ownerOf {G : Kg} {σ : Kmem} {Q : Int → Kmem → Prop} {l1 l2 : Int}  (h : (0 ≤ (l2 * 9) + l1 ∧ (l2 * 9) + l1 < 63) ∧ Q (σ 63 ((l2 * 9) + l1)) σ) : Run G WX M_X8_ownerOf 0 0 0 [vA G 58, vI l1, vI l2] σ Q := by
  refine Run.of (by decide +kernel) (by show (3 : Nat) ≤ 3; decide) ?_
  show Ex G WX M_X8_ownerOf 0 0 0 0 [(0, vA G 58), (1, vI l1), (2, vI l2)] [] σ Q
  refine R_aload_n e_X8_ownerOf_0.1 0 rfl ?_
  refine R_getA 8 6 63 e_X8_ownerOf_0.2.1 f_X8_28 kx_58 (fun _ _ => rfl) rx_58_6 (by decide) ?_
  refine R_iload_n e_X8_ownerOf_0.2.2.1 2 rfl ?_
  refine R_bipush e_X8_ownerOf_0.2.2.2.1 (by decide) ?_
  refine R_imul e_X8_ownerOf_0.2.2.2.2.1 ?_
  refine R_iload_n e_X8_ownerOf_0.2.2.2.2.2.1 1 rfl ?_
  refine R_iadd e_X8_ownerOf_0.2.2.2.2.2.2.1 ?_
  obtain ⟨q1, h⟩ := h
  refine R_iald 63 e_X8_ownerOf_0.2.2.2.2.2.2.2.1 kxa_63 q1 ?_
  exact R_ireturn e_X8_ownerOf_0.2.2.2.2.2.2.2.2 rfl h
/-! KiteLand$Sky.ownedFields()I -/
theorem e_X8_ownedFields_0 : decode cX8_ownedFields 0 = .ok (.iconst 0, 1) ∧ decode cX8_ownedFields 1 = .ok (.istore_n 1, 1) ∧ decode cX8_ownedFields 2 = .ok (.iconst 0, 1) ∧ decode cX8_ownedFields 3 = .ok (.istore_n 2, 1) ∧ decode cX8_ownedFields 4 = .ok (.iload_n 2, 1) ∧ decode cX8_ownedFields 5 = .ok (.bipush 63, 2) ∧ decode cX8_ownedFields 7 = .ok (.if_icmp .ge 22, 3) ∧ decode cX8_ownedFields 10 = .ok (.aload_n 0, 1) ∧ decode cX8_ownedFields 11 = .ok (.getfield 28, 3) ∧ decode cX8_ownedFields 14 = .ok (.iload_n 2, 1) := by decide +kernel
theorem e_X8_ownedFields_1 : decode cX8_ownedFields 15 = .ok (.iaload, 1) ∧ decode cX8_ownedFields 16 = .ok (.iconst (-1), 1) ∧ decode cX8_ownedFields 17 = .ok (.if_icmp .eq 6, 3) ∧ decode cX8_ownedFields 20 = .ok (.iinc 1 1, 3) ∧ decode cX8_ownedFields 23 = .ok (.iinc 2 1, 3) ∧ decode cX8_ownedFields 26 = .ok (.goto (-22), 3) ∧ decode cX8_ownedFields 29 = .ok (.iload_n 1, 1) ∧ decode cX8_ownedFields 30 = .ok (.ireturn, 1) := by decide +kernel
abbrev E_X8_ownedFields_4 (G : Kg) (l1 l2 : Int) (σ : Kmem) (Q : Int → Kmem → Prop) : Prop := Ex G WX M_X8_ownedFields 0 0 0 4 [(0, vA G 58), (1, vI l1), (2, vI l2)] [] σ Q
theorem S_X8_ownedFields {G : Kg} {σ : Kmem} {Q : Int → Kmem → Prop}  (h : E_X8_ownedFields_4 G 0 0 σ Q) : Run G WX M_X8_ownedFields 0 0 0 [vA G 58] σ Q := by
  refine Run.of (by decide +kernel) (by show (1 : Nat) ≤ 3; decide) ?_
  show Ex G WX M_X8_ownedFields 0 0 0 0 [(0, vA G 58)] [] σ Q
  refine R_iconst e_X8_ownedFields_0.1 ?_
  refine R_istore_n (ls2 := [(1, vI 0), (0, vA G 58)]) e_X8_ownedFields_0.2.1 (by decide) rfl ?_
  refine R_iconst e_X8_ownedFields_0.2.2.1 ?_
  refine R_istore_n (ls2 := [(2, vI 0), (1, vI 0), (0, vA G 58)]) e_X8_ownedFields_0.2.2.2.1 (by decide) rfl ?_
  refine R_ls (ls2 := [(0, vA G 58), (1, vI 0), (2, vI 0)]) [2, 1, 0] rfl ?_
  exact h
theorem S_X8_ownedFields_4 {G : Kg} {σ : Kmem} {Q : Int → Kmem → Prop} {l1 l2 : Int}  (h : (rI l2) ∧ ((63 ≤ l2 → Q l1 σ) ∧ (l2 < 63 → (0 ≤ l2 ∧ l2 < 63) ∧ (rI (σ 63 l2)) ∧ ((σ 63 l2 = -1 → E_X8_ownedFields_4 G l1 (l2 + 1) σ Q) ∧ (σ 63 l2 ≠ -1 → E_X8_ownedFields_4 G (l1 + 1) (l2 + 1) σ Q))))) : E_X8_ownedFields_4 G l1 l2 σ Q := by
  refine R_iload_n e_X8_ownedFields_0.2.2.2.2.1 2 rfl ?_
  refine R_bipush e_X8_ownedFields_0.2.2.2.2.2.1 (by decide) ?_
  obtain ⟨q1, h⟩ := h
  refine R_icmp_ge 29 e_X8_ownedFields_0.2.2.2.2.2.2.1 (by decide) q1 (by decide) (fun q => ?_) (fun q => ?_)
  · replace h := h.1 q
    refine R_iload_n e_X8_ownedFields_1.2.2.2.2.2.2.1 1 rfl ?_
    exact R_ireturn e_X8_ownedFields_1.2.2.2.2.2.2.2 rfl h
  · replace h := h.2 q
    refine R_aload_n e_X8_ownedFields_0.2.2.2.2.2.2.2.1 0 rfl ?_
    refine R_getA 8 6 63 e_X8_ownedFields_0.2.2.2.2.2.2.2.2.1 f_X8_28 kx_58 (fun _ _ => rfl) rx_58_6 (by decide) ?_
    refine R_iload_n e_X8_ownedFields_0.2.2.2.2.2.2.2.2.2 2 rfl ?_
    obtain ⟨q2, h⟩ := h
    refine R_iald 63 e_X8_ownedFields_1.1 kxa_63 q2 ?_
    refine R_iconst e_X8_ownedFields_1.2.1 ?_
    obtain ⟨q3, h⟩ := h
    refine R_icmp_eq 23 e_X8_ownedFields_1.2.2.1 (by decide) q3 (by decide) (fun q => ?_) (fun q => ?_)
    · replace h := h.1 q
      refine R_iinc (ls2 := [(2, vI (l2 + 1)), (0, vA G 58), (1, vI l1)]) e_X8_ownedFields_1.2.2.2.2.1 2 rfl (by decide) rfl ?_
      refine R_goto 4 e_X8_ownedFields_1.2.2.2.2.2.1 (by decide) ?_
      refine R_ls (ls2 := [(0, vA G 58), (1, vI l1), (2, vI (l2 + 1))]) [1, 2, 0] rfl ?_
      exact h
    · replace h := h.2 q
      refine R_iinc (ls2 := [(1, vI (l1 + 1)), (0, vA G 58), (2, vI l2)]) e_X8_ownedFields_1.2.2.2.1 1 rfl (by decide) rfl ?_
      refine R_iinc (ls2 := [(2, vI (l2 + 1)), (1, vI (l1 + 1)), (0, vA G 58)]) e_X8_ownedFields_1.2.2.2.2.1 2 rfl (by decide) rfl ?_
      refine R_goto 4 e_X8_ownedFields_1.2.2.2.2.2.1 (by decide) ?_
      refine R_ls (ls2 := [(0, vA G 58), (1, vI (l1 + 1)), (2, vI (l2 + 1))]) [2, 1, 0] rfl ?_
      exact h
/-! KiteLand$Sky.disputedFields()I -/
theorem e_X8_disputedFields_0 : decode cX8_disputedFields 0 = .ok (.iconst 0, 1) ∧ decode cX8_disputedFields 1 = .ok (.istore_n 1, 1) ∧ decode cX8_disputedFields 2 = .ok (.iconst 0, 1) ∧ decode cX8_disputedFields 3 = .ok (.istore_n 2, 1) ∧ decode cX8_disputedFields 4 = .ok (.iload_n 2, 1) ∧ decode cX8_disputedFields 5 = .ok (.bipush 63, 2) ∧ decode cX8_disputedFields 7 = .ok (.if_icmp .ge 25, 3) ∧ decode cX8_disputedFields 10 = .ok (.aload_n 0, 1) ∧ decode cX8_disputedFields 11 = .ok (.getfield 25, 3) ∧ decode cX8_disputedFields 14 = .ok (.iload_n 2, 1) := by decide +kernel
theorem e_X8_disputedFields_1 : decode cX8_disputedFields 15 = .ok (.iaload, 1) ∧ decode cX8_disputedFields 16 = .ok (.invokestatic 122, 3) ∧ decode cX8_disputedFields 19 = .ok (.iconst 1, 1) ∧ decode cX8_disputedFields 20 = .ok (.if_icmp .le 6, 3) ∧ decode cX8_disputedFields 23 = .ok (.iinc 1 1, 3) ∧ decode cX8_disputedFields 26 = .ok (.iinc 2 1, 3) ∧ decode cX8_disputedFields 29 = .ok (.goto (-25), 3) ∧ decode cX8_disputedFields 32 = .ok (.iload_n 1, 1) ∧ decode cX8_disputedFields 33 = .ok (.ireturn, 1) := by decide +kernel
abbrev E_X8_disputedFields_4 (G : Kg) (l1 l2 : Int) (σ : Kmem) (Q : Int → Kmem → Prop) : Prop := Ex G WX M_X8_disputedFields 1 0 0 4 [(0, vA G 58), (1, vI l1), (2, vI l2)] [] σ Q
theorem S_X8_disputedFields {G : Kg} {σ : Kmem} {Q : Int → Kmem → Prop}  (h : E_X8_disputedFields_4 G 0 0 σ Q) : Run G WX M_X8_disputedFields 1 0 0 [vA G 58] σ Q := by
  refine Run.of (by decide +kernel) (by show (1 : Nat) ≤ 3; decide) ?_
  show Ex G WX M_X8_disputedFields 1 0 0 0 [(0, vA G 58)] [] σ Q
  refine R_iconst e_X8_disputedFields_0.1 ?_
  refine R_istore_n (ls2 := [(1, vI 0), (0, vA G 58)]) e_X8_disputedFields_0.2.1 (by decide) rfl ?_
  refine R_iconst e_X8_disputedFields_0.2.2.1 ?_
  refine R_istore_n (ls2 := [(2, vI 0), (1, vI 0), (0, vA G 58)]) e_X8_disputedFields_0.2.2.2.1 (by decide) rfl ?_
  refine R_ls (ls2 := [(0, vA G 58), (1, vI 0), (2, vI 0)]) [2, 1, 0] rfl ?_
  exact h
theorem S_X8_disputedFields_4 {G : Kg} {σ : Kmem} {Q : Int → Kmem → Prop} {l1 l2 : Int}  (h : (rI l2) ∧ ((63 ≤ l2 → Q l1 σ) ∧ (l2 < 63 → (0 ≤ l2 ∧ l2 < 63) ∧ Run G WX M_J6_bitCount_0f7a4 0 0 0 [vI (σ 62 l2)] σ (fun r3 s4 => (rI r3) ∧ ((r3 ≤ 1 → E_X8_disputedFields_4 G l1 (l2 + 1) s4 Q) ∧ (1 < r3 → E_X8_disputedFields_4 G (l1 + 1) (l2 + 1) s4 Q)))))) : E_X8_disputedFields_4 G l1 l2 σ Q := by
  refine R_iload_n e_X8_disputedFields_0.2.2.2.2.1 2 rfl ?_
  refine R_bipush e_X8_disputedFields_0.2.2.2.2.2.1 (by decide) ?_
  obtain ⟨q1, h⟩ := h
  refine R_icmp_ge 32 e_X8_disputedFields_0.2.2.2.2.2.2.1 (by decide) q1 (by decide) (fun q => ?_) (fun q => ?_)
  · replace h := h.1 q
    refine R_iload_n e_X8_disputedFields_1.2.2.2.2.2.2.2.1 1 rfl ?_
    exact R_ireturn e_X8_disputedFields_1.2.2.2.2.2.2.2.2 rfl h
  · replace h := h.2 q
    refine R_aload_n e_X8_disputedFields_0.2.2.2.2.2.2.2.1 0 rfl ?_
    refine R_getA 8 5 62 e_X8_disputedFields_0.2.2.2.2.2.2.2.2.1 f_X8_25 kx_58 (fun _ _ => rfl) rx_58_5 (by decide) ?_
    refine R_iload_n e_X8_disputedFields_0.2.2.2.2.2.2.2.2.2 2 rfl ?_
    obtain ⟨q2, h⟩ := h
    refine R_iald 63 e_X8_disputedFields_1.1 kxa_62 q2 ?_
    refine R_callS (mc := 0) (ms := 0) (mc' := 0) (ms' := 0) (M' := M_J6_bitCount_0f7a4) (d' := 0) (as := [vI (σ 62 l2)]) (st := []) 1 e_X8_disputedFields_1.2.1 (kCSof m_J6_bitCount_0f7a4 l_X8_122) (by decide) (by decide) rfl rfl (by show (0 : Nat) ≤ 8; decide) ?_
    refine Run.mono h (fun r3 s4 h => ?_)
    refine R_eqs (st2 := [vI r3]) rfl rfl ?_
    refine R_iconst e_X8_disputedFields_1.2.2.1 ?_
    obtain ⟨q5, h⟩ := h
    refine R_icmp_le 26 e_X8_disputedFields_1.2.2.2.1 (by decide) q5 (by decide) (fun q => ?_) (fun q => ?_)
    · replace h := h.1 q
      refine R_iinc (ls2 := [(2, vI (l2 + 1)), (0, vA G 58), (1, vI l1)]) e_X8_disputedFields_1.2.2.2.2.2.1 2 rfl (by decide) rfl ?_
      refine R_goto 4 e_X8_disputedFields_1.2.2.2.2.2.2.1 (by decide) ?_
      refine R_ls (ls2 := [(0, vA G 58), (1, vI l1), (2, vI (l2 + 1))]) [1, 2, 0] rfl ?_
      exact h
    · replace h := h.2 q
      refine R_iinc (ls2 := [(1, vI (l1 + 1)), (0, vA G 58), (2, vI l2)]) e_X8_disputedFields_1.2.2.2.2.1 1 rfl (by decide) rfl ?_
      refine R_iinc (ls2 := [(2, vI (l2 + 1)), (1, vI (l1 + 1)), (0, vA G 58)]) e_X8_disputedFields_1.2.2.2.2.2.1 2 rfl (by decide) rfl ?_
      refine R_goto 4 e_X8_disputedFields_1.2.2.2.2.2.2.1 (by decide) ?_
      refine R_ls (ls2 := [(0, vA G 58), (1, vI (l1 + 1)), (2, vI (l2 + 1))]) [2, 1, 0] rfl ?_
      exact h
/-! KiteLand$Sky.fieldsOf(I)I -/
theorem e_X8_fieldsOf_0 : decode cX8_fieldsOf 0 = .ok (.iconst 0, 1) ∧ decode cX8_fieldsOf 1 = .ok (.istore_n 2, 1) ∧ decode cX8_fieldsOf 2 = .ok (.iconst 0, 1) ∧ decode cX8_fieldsOf 3 = .ok (.istore_n 3, 1) ∧ decode cX8_fieldsOf 4 = .ok (.iload_n 3, 1) ∧ decode cX8_fieldsOf 5 = .ok (.bipush 63, 2) ∧ decode cX8_fieldsOf 7 = .ok (.if_icmp .ge 22, 3) ∧ decode cX8_fieldsOf 10 = .ok (.aload_n 0, 1) ∧ decode cX8_fieldsOf 11 = .ok (.getfield 28, 3) ∧ decode cX8_fieldsOf 14 = .ok (.iload_n 3, 1) := by decide +kernel
theorem e_X8_fieldsOf_1 : decode cX8_fieldsOf 15 = .ok (.iaload, 1) ∧ decode cX8_fieldsOf 16 = .ok (.iload_n 1, 1) ∧ decode cX8_fieldsOf 17 = .ok (.if_icmp .ne 6, 3) ∧ decode cX8_fieldsOf 20 = .ok (.iinc 2 1, 3) ∧ decode cX8_fieldsOf 23 = .ok (.iinc 3 1, 3) ∧ decode cX8_fieldsOf 26 = .ok (.goto (-22), 3) ∧ decode cX8_fieldsOf 29 = .ok (.iload_n 2, 1) ∧ decode cX8_fieldsOf 30 = .ok (.ireturn, 1) := by decide +kernel
abbrev E_X8_fieldsOf_4 (G : Kg) (l1 l2 l3 : Int) (σ : Kmem) (Q : Int → Kmem → Prop) : Prop := Ex G WX M_X8_fieldsOf 0 0 0 4 [(0, vA G 58), (1, vI l1), (2, vI l2), (3, vI l3)] [] σ Q
theorem S_X8_fieldsOf {G : Kg} {σ : Kmem} {Q : Int → Kmem → Prop} {l1 : Int}  (h : E_X8_fieldsOf_4 G l1 0 0 σ Q) : Run G WX M_X8_fieldsOf 0 0 0 [vA G 58, vI l1] σ Q := by
  refine Run.of (by decide +kernel) (by show (2 : Nat) ≤ 4; decide) ?_
  show Ex G WX M_X8_fieldsOf 0 0 0 0 [(0, vA G 58), (1, vI l1)] [] σ Q
  refine R_iconst e_X8_fieldsOf_0.1 ?_
  refine R_istore_n (ls2 := [(2, vI 0), (0, vA G 58), (1, vI l1)]) e_X8_fieldsOf_0.2.1 (by decide) rfl ?_
  refine R_iconst e_X8_fieldsOf_0.2.2.1 ?_
  refine R_istore_n (ls2 := [(3, vI 0), (2, vI 0), (0, vA G 58), (1, vI l1)]) e_X8_fieldsOf_0.2.2.2.1 (by decide) rfl ?_
  refine R_ls (ls2 := [(0, vA G 58), (1, vI l1), (2, vI 0), (3, vI 0)]) [2, 3, 1, 0] rfl ?_
  exact h
theorem S_X8_fieldsOf_4 {G : Kg} {σ : Kmem} {Q : Int → Kmem → Prop} {l1 l2 l3 : Int}  (h : (rI l3) ∧ ((63 ≤ l3 → Q l2 σ) ∧ (l3 < 63 → (0 ≤ l3 ∧ l3 < 63) ∧ (rI (σ 63 l3)) ∧ (rI l1) ∧ ((σ 63 l3 ≠ l1 → E_X8_fieldsOf_4 G l1 l2 (l3 + 1) σ Q) ∧ (σ 63 l3 = l1 → E_X8_fieldsOf_4 G l1 (l2 + 1) (l3 + 1) σ Q))))) : E_X8_fieldsOf_4 G l1 l2 l3 σ Q := by
  refine R_iload_n e_X8_fieldsOf_0.2.2.2.2.1 3 rfl ?_
  refine R_bipush e_X8_fieldsOf_0.2.2.2.2.2.1 (by decide) ?_
  obtain ⟨q1, h⟩ := h
  refine R_icmp_ge 29 e_X8_fieldsOf_0.2.2.2.2.2.2.1 (by decide) q1 (by decide) (fun q => ?_) (fun q => ?_)
  · replace h := h.1 q
    refine R_iload_n e_X8_fieldsOf_1.2.2.2.2.2.2.1 2 rfl ?_
    exact R_ireturn e_X8_fieldsOf_1.2.2.2.2.2.2.2 rfl h
  · replace h := h.2 q
    refine R_aload_n e_X8_fieldsOf_0.2.2.2.2.2.2.2.1 0 rfl ?_
    refine R_getA 8 6 63 e_X8_fieldsOf_0.2.2.2.2.2.2.2.2.1 f_X8_28 kx_58 (fun _ _ => rfl) rx_58_6 (by decide) ?_
    refine R_iload_n e_X8_fieldsOf_0.2.2.2.2.2.2.2.2.2 3 rfl ?_
    obtain ⟨q2, h⟩ := h
    refine R_iald 63 e_X8_fieldsOf_1.1 kxa_63 q2 ?_
    refine R_iload_n e_X8_fieldsOf_1.2.1 1 rfl ?_
    obtain ⟨q3, h⟩ := h
    obtain ⟨q4, h⟩ := h
    refine R_icmp_ne 23 e_X8_fieldsOf_1.2.2.1 (by decide) q3 q4 (fun q => ?_) (fun q => ?_)
    · replace h := h.1 q
      refine R_iinc (ls2 := [(3, vI (l3 + 1)), (0, vA G 58), (1, vI l1), (2, vI l2)]) e_X8_fieldsOf_1.2.2.2.2.1 3 rfl (by decide) rfl ?_
      refine R_goto 4 e_X8_fieldsOf_1.2.2.2.2.2.1 (by decide) ?_
      refine R_ls (ls2 := [(0, vA G 58), (1, vI l1), (2, vI l2), (3, vI (l3 + 1))]) [1, 2, 3, 0] rfl ?_
      exact h
    · replace h := h.2 q
      refine R_iinc (ls2 := [(2, vI (l2 + 1)), (0, vA G 58), (1, vI l1), (3, vI l3)]) e_X8_fieldsOf_1.2.2.2.1 2 rfl (by decide) rfl ?_
      refine R_iinc (ls2 := [(3, vI (l3 + 1)), (2, vI (l2 + 1)), (0, vA G 58), (1, vI l1)]) e_X8_fieldsOf_1.2.2.2.2.1 3 rfl (by decide) rfl ?_
      refine R_goto 4 e_X8_fieldsOf_1.2.2.2.2.2.1 (by decide) ?_
      refine R_ls (ls2 := [(0, vA G 58), (1, vI l1), (2, vI (l2 + 1)), (3, vI (l3 + 1))]) [2, 3, 1, 0] rfl ?_
      exact h
/-! KiteLand$Sky.shadedAloneBy(I)I -/
theorem e_X8_shadedAloneBy_0 : decode cX8_shadedAloneBy 0 = .ok (.iconst 0, 1) ∧ decode cX8_shadedAloneBy 1 = .ok (.istore_n 2, 1) ∧ decode cX8_shadedAloneBy 2 = .ok (.iconst 0, 1) ∧ decode cX8_shadedAloneBy 3 = .ok (.istore_n 3, 1) ∧ decode cX8_shadedAloneBy 4 = .ok (.iload_n 3, 1) ∧ decode cX8_shadedAloneBy 5 = .ok (.bipush 63, 2) ∧ decode cX8_shadedAloneBy 7 = .ok (.if_icmp .ge 24, 3) ∧ decode cX8_shadedAloneBy 10 = .ok (.aload_n 0, 1) ∧ decode cX8_shadedAloneBy 11 = .ok (.getfield 25, 3) ∧ decode cX8_shadedAloneBy 14 = .ok (.iload_n 3, 1) := by decide +kernel
theorem e_X8_shadedAloneBy_1 : decode cX8_shadedAloneBy 15 = .ok (.iaload, 1) ∧ decode cX8_shadedAloneBy 16 = .ok (.iconst 1, 1) ∧ decode cX8_shadedAloneBy 17 = .ok (.iload_n 1, 1) ∧ decode cX8_shadedAloneBy 18 = .ok (.ishl, 1) ∧ decode cX8_shadedAloneBy 19 = .ok (.if_icmp .ne 6, 3) ∧ decode cX8_shadedAloneBy 22 = .ok (.iinc 2 1, 3) ∧ decode cX8_shadedAloneBy 25 = .ok (.iinc 3 1, 3) ∧ decode cX8_shadedAloneBy 28 = .ok (.goto (-24), 3) ∧ decode cX8_shadedAloneBy 31 = .ok (.iload_n 2, 1) ∧ decode cX8_shadedAloneBy 32 = .ok (.ireturn, 1) := by decide +kernel
abbrev E_X8_shadedAloneBy_4 (G : Kg) (l1 l2 l3 : Int) (σ : Kmem) (Q : Int → Kmem → Prop) : Prop := Ex G WX M_X8_shadedAloneBy 0 0 0 4 [(0, vA G 58), (1, vI l1), (2, vI l2), (3, vI l3)] [] σ Q
theorem S_X8_shadedAloneBy {G : Kg} {σ : Kmem} {Q : Int → Kmem → Prop} {l1 : Int}  (h : E_X8_shadedAloneBy_4 G l1 0 0 σ Q) : Run G WX M_X8_shadedAloneBy 0 0 0 [vA G 58, vI l1] σ Q := by
  refine Run.of (by decide +kernel) (by show (2 : Nat) ≤ 4; decide) ?_
  show Ex G WX M_X8_shadedAloneBy 0 0 0 0 [(0, vA G 58), (1, vI l1)] [] σ Q
  refine R_iconst e_X8_shadedAloneBy_0.1 ?_
  refine R_istore_n (ls2 := [(2, vI 0), (0, vA G 58), (1, vI l1)]) e_X8_shadedAloneBy_0.2.1 (by decide) rfl ?_
  refine R_iconst e_X8_shadedAloneBy_0.2.2.1 ?_
  refine R_istore_n (ls2 := [(3, vI 0), (2, vI 0), (0, vA G 58), (1, vI l1)]) e_X8_shadedAloneBy_0.2.2.2.1 (by decide) rfl ?_
  refine R_ls (ls2 := [(0, vA G 58), (1, vI l1), (2, vI 0), (3, vI 0)]) [2, 3, 1, 0] rfl ?_
  exact h
theorem S_X8_shadedAloneBy_4 {G : Kg} {σ : Kmem} {Q : Int → Kmem → Prop} {l1 l2 l3 : Int}  (h : (rI l3) ∧ ((63 ≤ l3 → Q l2 σ) ∧ (l3 < 63 → (0 ≤ l3 ∧ l3 < 63) ∧ (rI (σ 62 l3)) ∧ (rI (kshl 1 l1)) ∧ ((σ 62 l3 ≠ kshl 1 l1 → E_X8_shadedAloneBy_4 G l1 l2 (l3 + 1) σ Q) ∧ (σ 62 l3 = kshl 1 l1 → E_X8_shadedAloneBy_4 G l1 (l2 + 1) (l3 + 1) σ Q))))) : E_X8_shadedAloneBy_4 G l1 l2 l3 σ Q := by
  refine R_iload_n e_X8_shadedAloneBy_0.2.2.2.2.1 3 rfl ?_
  refine R_bipush e_X8_shadedAloneBy_0.2.2.2.2.2.1 (by decide) ?_
  obtain ⟨q1, h⟩ := h
  refine R_icmp_ge 31 e_X8_shadedAloneBy_0.2.2.2.2.2.2.1 (by decide) q1 (by decide) (fun q => ?_) (fun q => ?_)
  · replace h := h.1 q
    refine R_iload_n e_X8_shadedAloneBy_1.2.2.2.2.2.2.2.2.1 2 rfl ?_
    exact R_ireturn e_X8_shadedAloneBy_1.2.2.2.2.2.2.2.2.2 rfl h
  · replace h := h.2 q
    refine R_aload_n e_X8_shadedAloneBy_0.2.2.2.2.2.2.2.1 0 rfl ?_
    refine R_getA 8 5 62 e_X8_shadedAloneBy_0.2.2.2.2.2.2.2.2.1 f_X8_25 kx_58 (fun _ _ => rfl) rx_58_5 (by decide) ?_
    refine R_iload_n e_X8_shadedAloneBy_0.2.2.2.2.2.2.2.2.2 3 rfl ?_
    obtain ⟨q2, h⟩ := h
    refine R_iald 63 e_X8_shadedAloneBy_1.1 kxa_62 q2 ?_
    refine R_iconst e_X8_shadedAloneBy_1.2.1 ?_
    refine R_iload_n e_X8_shadedAloneBy_1.2.2.1 1 rfl ?_
    refine R_ishl e_X8_shadedAloneBy_1.2.2.2.1 ?_
    obtain ⟨q3, h⟩ := h
    obtain ⟨q4, h⟩ := h
    refine R_icmp_ne 25 e_X8_shadedAloneBy_1.2.2.2.2.1 (by decide) q3 q4 (fun q => ?_) (fun q => ?_)
    · replace h := h.1 q
      refine R_iinc (ls2 := [(3, vI (l3 + 1)), (0, vA G 58), (1, vI l1), (2, vI l2)]) e_X8_shadedAloneBy_1.2.2.2.2.2.2.1 3 rfl (by decide) rfl ?_
      refine R_goto 4 e_X8_shadedAloneBy_1.2.2.2.2.2.2.2.1 (by decide) ?_
      refine R_ls (ls2 := [(0, vA G 58), (1, vI l1), (2, vI l2), (3, vI (l3 + 1))]) [1, 2, 3, 0] rfl ?_
      exact h
    · replace h := h.2 q
      refine R_iinc (ls2 := [(2, vI (l2 + 1)), (0, vA G 58), (1, vI l1), (3, vI l3)]) e_X8_shadedAloneBy_1.2.2.2.2.2.1 2 rfl (by decide) rfl ?_
      refine R_iinc (ls2 := [(3, vI (l3 + 1)), (2, vI (l2 + 1)), (0, vA G 58), (1, vI l1)]) e_X8_shadedAloneBy_1.2.2.2.2.2.2.1 3 rfl (by decide) rfl ?_
      refine R_goto 4 e_X8_shadedAloneBy_1.2.2.2.2.2.2.2.1 (by decide) ?_
      refine R_ls (ls2 := [(0, vA G 58), (1, vI l1), (2, vI (l2 + 1)), (3, vI (l3 + 1))]) [2, 3, 1, 0] rfl ?_
      exact h
/-! KiteLand$Sky.nearestOf(LKiteLand$Tenant;)I -/
theorem e_X8_nearestOf_0 : decode cX8_nearestOf 0 = .ok (.iconst (-1), 1) ∧ decode cX8_nearestOf 1 = .ok (.istore_n 2, 1) ∧ decode cX8_nearestOf 2 = .ok (.bipush 16, 2) ∧ decode cX8_nearestOf 4 = .ok (.istore_n 3, 1) ∧ decode cX8_nearestOf 5 = .ok (.iconst 0, 1) ∧ decode cX8_nearestOf 6 = .ok (.istore 4, 2) ∧ decode cX8_nearestOf 8 = .ok (.iload 4, 2) ∧ decode cX8_nearestOf 10 = .ok (.aload_n 0, 1) ∧ decode cX8_nearestOf 11 = .ok (.getfield 31, 3) ∧ decode cX8_nearestOf 14 = .ok (.getfield 107, 3) := by decide +kernel
theorem e_X8_nearestOf_1 : decode cX8_nearestOf 17 = .ok (.if_icmp .ge 75, 3) ∧ decode cX8_nearestOf 20 = .ok (.iconst 0, 1) ∧ decode cX8_nearestOf 21 = .ok (.istore 5, 2) ∧ decode cX8_nearestOf 23 = .ok (.iload 5, 2) ∧ decode cX8_nearestOf 25 = .ok (.aload_n 0, 1) ∧ decode cX8_nearestOf 26 = .ok (.getfield 31, 3) ∧ decode cX8_nearestOf 29 = .ok (.getfield 113, 3) ∧ decode cX8_nearestOf 32 = .ok (.if_icmp .ge 54, 3) ∧ decode cX8_nearestOf 35 = .ok (.aload_n 0, 1) ∧ decode cX8_nearestOf 36 = .ok (.iload 5, 2) := by decide +kernel
theorem e_X8_nearestOf_2 : decode cX8_nearestOf 38 = .ok (.iload 4, 2) ∧ decode cX8_nearestOf 40 = .ok (.invokevirtual 128, 3) ∧ decode cX8_nearestOf 43 = .ok (.aload_n 1, 1) ∧ decode cX8_nearestOf 44 = .ok (.getfield 131, 3) ∧ decode cX8_nearestOf 47 = .ok (.if_icmp .ne 33, 3) ∧ decode cX8_nearestOf 50 = .ok (.aload_n 1, 1) ∧ decode cX8_nearestOf 51 = .ok (.iload 5, 2) ∧ decode cX8_nearestOf 53 = .ok (.iload 4, 2) ∧ decode cX8_nearestOf 55 = .ok (.invokevirtual 136, 3) ∧ decode cX8_nearestOf 58 = .ok (.iload_n 3, 1) := by decide +kernel
theorem e_X8_nearestOf_3 : decode cX8_nearestOf 59 = .ok (.if_icmp .ge 21, 3) ∧ decode cX8_nearestOf 62 = .ok (.aload_n 1, 1) ∧ decode cX8_nearestOf 63 = .ok (.iload 5, 2) ∧ decode cX8_nearestOf 65 = .ok (.iload 4, 2) ∧ decode cX8_nearestOf 67 = .ok (.invokevirtual 136, 3) ∧ decode cX8_nearestOf 70 = .ok (.istore_n 3, 1) ∧ decode cX8_nearestOf 71 = .ok (.iload 4, 2) ∧ decode cX8_nearestOf 73 = .ok (.bipush 9, 2) ∧ decode cX8_nearestOf 75 = .ok (.imul, 1) ∧ decode cX8_nearestOf 76 = .ok (.iload 5, 2) := by decide +kernel
theorem e_X8_nearestOf_4 : decode cX8_nearestOf 78 = .ok (.iadd, 1) ∧ decode cX8_nearestOf 79 = .ok (.istore_n 2, 1) ∧ decode cX8_nearestOf 80 = .ok (.iinc 5 1, 3) ∧ decode cX8_nearestOf 83 = .ok (.goto (-60), 3) ∧ decode cX8_nearestOf 86 = .ok (.iinc 4 1, 3) ∧ decode cX8_nearestOf 89 = .ok (.goto (-81), 3) ∧ decode cX8_nearestOf 92 = .ok (.iload_n 2, 1) ∧ decode cX8_nearestOf 93 = .ok (.ireturn, 1) := by decide +kernel
abbrev E_X8_nearestOf_8 (G : Kg) (a l2 l3 l4 : Int) (σ : Kmem) (Q : Int → Kmem → Prop) : Prop := Ex G WX M_X8_nearestOf 2 0 0 8 [(0, vA G 58), (1, vA G a), (2, vI l2), (3, vI l3), (4, vI l4)] [] σ Q
abbrev E_X8_nearestOf_23 (G : Kg) (a l2 l3 l4 l5 : Int) (σ : Kmem) (Q : Int → Kmem → Prop) : Prop := Ex G WX M_X8_nearestOf 2 0 0 23 [(0, vA G 58), (1, vA G a), (2, vI l2), (3, vI l3), (4, vI l4), (5, vI l5)] [] σ Q
theorem S_X8_nearestOf {G : Kg} {σ : Kmem} {Q : Int → Kmem → Prop} {a c : Int} (ha : kIsX a 9) (hc : isC c) (h : E_X8_nearestOf_8 G a (-1) 16 0 σ Q) : Run G WX M_X8_nearestOf 2 0 0 [vA G 58, vA G a] σ Q := by
  refine Run.of (by decide +kernel) (by show (2 : Nat) ≤ 6; decide) ?_
  show Ex G WX M_X8_nearestOf 2 0 0 0 [(0, vA G 58), (1, vA G a)] [] σ Q
  refine R_iconst e_X8_nearestOf_0.1 ?_
  refine R_istore_n (ls2 := [(2, vI (-1)), (0, vA G 58), (1, vA G a)]) e_X8_nearestOf_0.2.1 (by decide) rfl ?_
  refine R_bipush e_X8_nearestOf_0.2.2.1 (by decide) ?_
  refine R_istore_n (ls2 := [(3, vI 16), (2, vI (-1)), (0, vA G 58), (1, vA G a)]) e_X8_nearestOf_0.2.2.2.1 (by decide) rfl ?_
  refine R_iconst e_X8_nearestOf_0.2.2.2.2.1 ?_
  refine R_istore (ls2 := [(4, vI 0), (3, vI 16), (2, vI (-1)), (0, vA G 58), (1, vA G a)]) e_X8_nearestOf_0.2.2.2.2.2.1 (by decide) rfl ?_
  refine R_ls (ls2 := [(0, vA G 58), (1, vA G a), (2, vI (-1)), (3, vI 16), (4, vI 0)]) [3, 4, 2, 1, 0] rfl ?_
  exact h
theorem S_X8_nearestOf_8 {G : Kg} {σ : Kmem} {Q : Int → Kmem → Prop} {a c l2 l3 l4 : Int} (ha : kIsX a 9) (hc : isC c) (h : (σ 58 0 = c) ∧ (rI l4) ∧ (rI (σ c 1)) ∧ ((σ c 1 ≤ l4 → Q l2 σ) ∧ (l4 < σ c 1 → E_X8_nearestOf_23 G a l2 l3 l4 0 σ Q))) : E_X8_nearestOf_8 G a l2 l3 l4 σ Q := by
  refine R_iload e_X8_nearestOf_0.2.2.2.2.2.2.1 4 rfl ?_
  refine R_aload_n e_X8_nearestOf_0.2.2.2.2.2.2.2.1 0 rfl ?_
  obtain ⟨q1, h⟩ := h
  refine R_getA 8 0 c e_X8_nearestOf_0.2.2.2.2.2.2.2.2.1 f_X8_31 kx_58 (fun _ _ => rfl) ((sky_c _).trans q1) (isC_n hc) ?_
  refine R_getI 0 1 1 e_X8_nearestOf_0.2.2.2.2.2.2.2.2.2 f_X8_107 (kC_self hc) (fun _ _ => rfl) rfl ?_
  obtain ⟨q2, h⟩ := h
  obtain ⟨q3, h⟩ := h
  refine R_icmp_ge 92 e_X8_nearestOf_1.1 (by decide) q2 q3 (fun q => ?_) (fun q => ?_)
  · replace h := h.1 q
    refine R_iload_n e_X8_nearestOf_4.2.2.2.2.2.2.1 2 rfl ?_
    exact R_ireturn e_X8_nearestOf_4.2.2.2.2.2.2.2 rfl h
  · replace h := h.2 q
    refine R_iconst e_X8_nearestOf_1.2.1 ?_
    refine R_istore (ls2 := [(5, vI 0), (0, vA G 58), (1, vA G a), (2, vI l2), (3, vI l3), (4, vI l4)]) e_X8_nearestOf_1.2.2.1 (by decide) rfl ?_
    refine R_ls (ls2 := [(0, vA G 58), (1, vA G a), (2, vI l2), (3, vI l3), (4, vI l4), (5, vI 0)]) [1, 2, 3, 4, 5, 0] rfl ?_
    exact h
theorem S_X8_nearestOf_23 {G : Kg} {σ : Kmem} {Q : Int → Kmem → Prop} {a c l2 l3 l4 l5 : Int} (ha : kIsX a 9) (hc : isC c) (h : (σ 58 0 = c) ∧ (rI l5) ∧ (rI (σ c 0)) ∧ ((σ c 0 ≤ l5 → E_X8_nearestOf_8 G a l2 l3 (l4 + 1) σ Q) ∧ (l5 < σ c 0 → Run G WX M_X8_ownerOf 0 0 0 [vA G 58, vI l5, vI l4] σ (fun r7 s8 => (rI r7) ∧ (rI (s8 a 3)) ∧ ((r7 ≠ s8 a 3 → E_X8_nearestOf_23 G a l2 l3 l4 (l5 + 1) s8 Q) ∧ (r7 = s8 a 3 → Run G WX M_X9_stepsTo 1 0 0 [vA G a, vI l5, vI l4] s8 (fun r11 s12 => (rI r11) ∧ (rI l3) ∧ ((l3 ≤ r11 → E_X8_nearestOf_23 G a l2 l3 l4 (l5 + 1) s12 Q) ∧ (r11 < l3 → Run G WX M_X9_stepsTo 1 0 0 [vA G a, vI l5, vI l4] s12 (fun r15 s16 => E_X8_nearestOf_23 G a ((l4 * 9) + l5) r15 l4 (l5 + 1) s16 Q)))))))))) : E_X8_nearestOf_23 G a l2 l3 l4 l5 σ Q := by
  refine R_iload e_X8_nearestOf_1.2.2.2.1 5 rfl ?_
  refine R_aload_n e_X8_nearestOf_1.2.2.2.2.1 0 rfl ?_
  obtain ⟨q4, h⟩ := h
  refine R_getA 8 0 c e_X8_nearestOf_1.2.2.2.2.2.1 f_X8_31 kx_58 (fun _ _ => rfl) ((sky_c _).trans q4) (isC_n hc) ?_
  refine R_getI 0 0 0 e_X8_nearestOf_1.2.2.2.2.2.2.1 f_X8_113 (kC_self hc) (fun _ _ => rfl) rfl ?_
  obtain ⟨q5, h⟩ := h
  obtain ⟨q6, h⟩ := h
  refine R_icmp_ge 86 e_X8_nearestOf_1.2.2.2.2.2.2.2.1 (by decide) q5 q6 (fun q => ?_) (fun q => ?_)
  · replace h := h.1 q
    refine R_iinc (ls2 := [(4, vI (l4 + 1)), (0, vA G 58), (1, vA G a), (2, vI l2), (3, vI l3), (5, vI l5)]) e_X8_nearestOf_4.2.2.2.2.1 4 rfl (by decide) rfl ?_
    refine R_goto 8 e_X8_nearestOf_4.2.2.2.2.2.1 (by decide) ?_
    refine R_ls (ls2 := [(0, vA G 58), (1, vA G a), (2, vI l2), (3, vI l3), (4, vI (l4 + 1))]) [1, 2, 3, 4, 0] rfl ?_
    exact h
  · replace h := h.2 q
    refine R_aload_n e_X8_nearestOf_1.2.2.2.2.2.2.2.2.1 0 rfl ?_
    refine R_iload e_X8_nearestOf_1.2.2.2.2.2.2.2.2.2 5 rfl ?_
    refine R_iload e_X8_nearestOf_2.1 4 rfl ?_
    refine R_callV (mc := 0) (ms := 0) (mc' := 0) (ms' := 0) (M' := M_X8_ownerOf) (d' := 0) (as := [vI l5, vI l4]) (st := []) 8 2 e_X8_nearestOf_2.2.1 (kCVof m_X8_ownerOf l_X8_128) rfl (by decide) kx_58 (by decide) (by decide) rfl rfl (by show (0 : Nat) ≤ 8; decide) ?_
    refine Run.mono h (fun r7 s8 h => ?_)
    refine R_eqs (st2 := [vI r7]) rfl rfl ?_
    refine R_aload_n e_X8_nearestOf_2.2.2.1 1 rfl ?_
    refine R_getI 9 3 3 e_X8_nearestOf_2.2.2.2.1 f_X8_131 (kLX ha) (fun _ _ => rfl) rfl ?_
    obtain ⟨q9, h⟩ := h
    obtain ⟨q10, h⟩ := h
    refine R_icmp_ne 80 e_X8_nearestOf_2.2.2.2.2.1 (by decide) q9 q10 (fun q => ?_) (fun q => ?_)
    · replace h := h.1 q
      refine R_iinc (ls2 := [(5, vI (l5 + 1)), (0, vA G 58), (1, vA G a), (2, vI l2), (3, vI l3), (4, vI l4)]) e_X8_nearestOf_4.2.2.1 5 rfl (by decide) rfl ?_
      refine R_goto 23 e_X8_nearestOf_4.2.2.2.1 (by decide) ?_
      refine R_ls (ls2 := [(0, vA G 58), (1, vA G a), (2, vI l2), (3, vI l3), (4, vI l4), (5, vI (l5 + 1))]) [1, 2, 3, 4, 5, 0] rfl ?_
      exact h
    · replace h := h.2 q
      refine R_aload_n e_X8_nearestOf_2.2.2.2.2.2.1 1 rfl ?_
      refine R_iload e_X8_nearestOf_2.2.2.2.2.2.2.1 5 rfl ?_
      refine R_iload e_X8_nearestOf_2.2.2.2.2.2.2.2.1 4 rfl ?_
      refine R_callV (mc := 0) (ms := 0) (mc' := 0) (ms' := 0) (M' := M_X9_stepsTo) (d' := 1) (as := [vI l5, vI l4]) (st := []) 9 2 e_X8_nearestOf_2.2.2.2.2.2.2.2.2.1 (kCVof m_X9_stepsTo l_X8_136) rfl (by decide) (kLX ha) (by decide) (by decide) rfl rfl (by show (0 : Nat) ≤ 8; decide) ?_
      refine Run.mono h (fun r11 s12 h => ?_)
      refine R_eqs (st2 := [vI r11]) rfl rfl ?_
      refine R_iload_n e_X8_nearestOf_2.2.2.2.2.2.2.2.2.2 3 rfl ?_
      obtain ⟨q13, h⟩ := h
      obtain ⟨q14, h⟩ := h
      refine R_icmp_ge 80 e_X8_nearestOf_3.1 (by decide) q13 q14 (fun q => ?_) (fun q => ?_)
      · replace h := h.1 q
        refine R_iinc (ls2 := [(5, vI (l5 + 1)), (0, vA G 58), (1, vA G a), (2, vI l2), (3, vI l3), (4, vI l4)]) e_X8_nearestOf_4.2.2.1 5 rfl (by decide) rfl ?_
        refine R_goto 23 e_X8_nearestOf_4.2.2.2.1 (by decide) ?_
        refine R_ls (ls2 := [(0, vA G 58), (1, vA G a), (2, vI l2), (3, vI l3), (4, vI l4), (5, vI (l5 + 1))]) [1, 2, 3, 4, 5, 0] rfl ?_
        exact h
      · replace h := h.2 q
        refine R_aload_n e_X8_nearestOf_3.2.1 1 rfl ?_
        refine R_iload e_X8_nearestOf_3.2.2.1 5 rfl ?_
        refine R_iload e_X8_nearestOf_3.2.2.2.1 4 rfl ?_
        refine R_callV (mc := 0) (ms := 0) (mc' := 0) (ms' := 0) (M' := M_X9_stepsTo) (d' := 1) (as := [vI l5, vI l4]) (st := []) 9 2 e_X8_nearestOf_3.2.2.2.2.1 (kCVof m_X9_stepsTo l_X8_136) rfl (by decide) (kLX ha) (by decide) (by decide) rfl rfl (by show (0 : Nat) ≤ 8; decide) ?_
        refine Run.mono h (fun r15 s16 h => ?_)
        refine R_eqs (st2 := [vI r15]) rfl rfl ?_
        refine R_istore_n (ls2 := [(3, vI r15), (0, vA G 58), (1, vA G a), (2, vI l2), (4, vI l4), (5, vI l5)]) e_X8_nearestOf_3.2.2.2.2.2.1 (by decide) rfl ?_
        refine R_iload e_X8_nearestOf_3.2.2.2.2.2.2.1 4 rfl ?_
        refine R_bipush e_X8_nearestOf_3.2.2.2.2.2.2.2.1 (by decide) ?_
        refine R_imul e_X8_nearestOf_3.2.2.2.2.2.2.2.2.1 ?_
        refine R_iload e_X8_nearestOf_3.2.2.2.2.2.2.2.2.2 5 rfl ?_
        refine R_iadd e_X8_nearestOf_4.1 ?_
        refine R_istore_n (ls2 := [(2, vI ((l4 * 9) + l5)), (3, vI r15), (0, vA G 58), (1, vA G a), (4, vI l4), (5, vI l5)]) e_X8_nearestOf_4.2.1 (by decide) rfl ?_
        refine R_iinc (ls2 := [(5, vI (l5 + 1)), (2, vI ((l4 * 9) + l5)), (3, vI r15), (0, vA G 58), (1, vA G a), (4, vI l4)]) e_X8_nearestOf_4.2.2.1 5 rfl (by decide) rfl ?_
        refine R_goto 23 e_X8_nearestOf_4.2.2.2.1 (by decide) ?_
        refine R_ls (ls2 := [(0, vA G 58), (1, vA G a), (2, vI ((l4 * 9) + l5)), (3, vI r15), (4, vI l4), (5, vI (l5 + 1))]) [3, 4, 1, 2, 5, 0] rfl ?_
        exact h
/-! KiteLand$Sky.crossedSet()I -/
theorem e_X8_crossedSet_0 : decode cX8_crossedSet 0 = .ok (.iconst 0, 1) ∧ decode cX8_crossedSet 1 = .ok (.istore_n 1, 1) ∧ decode cX8_crossedSet 2 = .ok (.iconst 0, 1) ∧ decode cX8_crossedSet 3 = .ok (.istore_n 2, 1) ∧ decode cX8_crossedSet 4 = .ok (.iload_n 2, 1) ∧ decode cX8_crossedSet 5 = .ok (.aload_n 0, 1) ∧ decode cX8_crossedSet 6 = .ok (.getfield 31, 3) ∧ decode cX8_crossedSet 9 = .ok (.getfield 54, 3) ∧ decode cX8_crossedSet 12 = .ok (.if_icmp .ge 48, 3) ∧ decode cX8_crossedSet 15 = .ok (.iload_n 2, 1) := by decide +kernel
theorem e_X8_crossedSet_1 : decode cX8_crossedSet 16 = .ok (.iconst 1, 1) ∧ decode cX8_crossedSet 17 = .ok (.iadd, 1) ∧ decode cX8_crossedSet 18 = .ok (.istore_n 3, 1) ∧ decode cX8_crossedSet 19 = .ok (.iload_n 3, 1) ∧ decode cX8_crossedSet 20 = .ok (.aload_n 0, 1) ∧ decode cX8_crossedSet 21 = .ok (.getfield 31, 3) ∧ decode cX8_crossedSet 24 = .ok (.getfield 54, 3) ∧ decode cX8_crossedSet 27 = .ok (.if_icmp .ge 27, 3) ∧ decode cX8_crossedSet 30 = .ok (.aload_n 0, 1) ∧ decode cX8_crossedSet 31 = .ok (.iload_n 2, 1) := by decide +kernel
theorem e_X8_crossedSet_2 : decode cX8_crossedSet 32 = .ok (.iload_n 3, 1) ∧ decode cX8_crossedSet 33 = .ok (.invokevirtual 139, 3) ∧ decode cX8_crossedSet 36 = .ok (.ifCond .eq 12, 3) ∧ decode cX8_crossedSet 39 = .ok (.iload_n 1, 1) ∧ decode cX8_crossedSet 40 = .ok (.aload_n 0, 1) ∧ decode cX8_crossedSet 41 = .ok (.iload_n 2, 1) ∧ decode cX8_crossedSet 42 = .ok (.iload_n 3, 1) ∧ decode cX8_crossedSet 43 = .ok (.invokevirtual 143, 3) ∧ decode cX8_crossedSet 46 = .ok (.ior, 1) ∧ decode cX8_crossedSet 47 = .ok (.istore_n 1, 1) := by decide +kernel
theorem e_X8_crossedSet_3 : decode cX8_crossedSet 48 = .ok (.iinc 3 1, 3) ∧ decode cX8_crossedSet 51 = .ok (.goto (-32), 3) ∧ decode cX8_crossedSet 54 = .ok (.iinc 2 1, 3) ∧ decode cX8_crossedSet 57 = .ok (.goto (-53), 3) ∧ decode cX8_crossedSet 60 = .ok (.iload_n 1, 1) ∧ decode cX8_crossedSet 61 = .ok (.ireturn, 1) := by decide +kernel
abbrev E_X8_crossedSet_4 (G : Kg) (l1 l2 : Int) (σ : Kmem) (Q : Int → Kmem → Prop) : Prop := Ex G WX M_X8_crossedSet 1 0 0 4 [(0, vA G 58), (1, vI l1), (2, vI l2)] [] σ Q
abbrev E_X8_crossedSet_19 (G : Kg) (l1 l2 l3 : Int) (σ : Kmem) (Q : Int → Kmem → Prop) : Prop := Ex G WX M_X8_crossedSet 1 0 0 19 [(0, vA G 58), (1, vI l1), (2, vI l2), (3, vI l3)] [] σ Q
theorem S_X8_crossedSet {G : Kg} {σ : Kmem} {Q : Int → Kmem → Prop} {c : Int} (hc : isC c) (h : E_X8_crossedSet_4 G 0 0 σ Q) : Run G WX M_X8_crossedSet 1 0 0 [vA G 58] σ Q := by
  refine Run.of (by decide +kernel) (by show (1 : Nat) ≤ 4; decide) ?_
  show Ex G WX M_X8_crossedSet 1 0 0 0 [(0, vA G 58)] [] σ Q
  refine R_iconst e_X8_crossedSet_0.1 ?_
  refine R_istore_n (ls2 := [(1, vI 0), (0, vA G 58)]) e_X8_crossedSet_0.2.1 (by decide) rfl ?_
  refine R_iconst e_X8_crossedSet_0.2.2.1 ?_
  refine R_istore_n (ls2 := [(2, vI 0), (1, vI 0), (0, vA G 58)]) e_X8_crossedSet_0.2.2.2.1 (by decide) rfl ?_
  refine R_ls (ls2 := [(0, vA G 58), (1, vI 0), (2, vI 0)]) [2, 1, 0] rfl ?_
  exact h
theorem S_X8_crossedSet_4 {G : Kg} {σ : Kmem} {Q : Int → Kmem → Prop} {c l1 l2 : Int} (hc : isC c) (h : (σ 58 0 = c) ∧ (rI l2) ∧ (rI (σ c 5)) ∧ ((σ c 5 ≤ l2 → Q l1 σ) ∧ (l2 < σ c 5 → E_X8_crossedSet_19 G l1 l2 (l2 + 1) σ Q))) : E_X8_crossedSet_4 G l1 l2 σ Q := by
  refine R_iload_n e_X8_crossedSet_0.2.2.2.2.1 2 rfl ?_
  refine R_aload_n e_X8_crossedSet_0.2.2.2.2.2.1 0 rfl ?_
  obtain ⟨q1, h⟩ := h
  refine R_getA 8 0 c e_X8_crossedSet_0.2.2.2.2.2.2.1 f_X8_31 kx_58 (fun _ _ => rfl) ((sky_c _).trans q1) (isC_n hc) ?_
  refine R_getI 0 5 5 e_X8_crossedSet_0.2.2.2.2.2.2.2.1 f_X8_54 (kC_self hc) (fun _ _ => rfl) rfl ?_
  obtain ⟨q2, h⟩ := h
  obtain ⟨q3, h⟩ := h
  refine R_icmp_ge 60 e_X8_crossedSet_0.2.2.2.2.2.2.2.2.1 (by decide) q2 q3 (fun q => ?_) (fun q => ?_)
  · replace h := h.1 q
    refine R_iload_n e_X8_crossedSet_3.2.2.2.2.1 1 rfl ?_
    exact R_ireturn e_X8_crossedSet_3.2.2.2.2.2 rfl h
  · replace h := h.2 q
    refine R_iload_n e_X8_crossedSet_0.2.2.2.2.2.2.2.2.2 2 rfl ?_
    refine R_iconst e_X8_crossedSet_1.1 ?_
    refine R_iadd e_X8_crossedSet_1.2.1 ?_
    refine R_istore_n (ls2 := [(3, vI (l2 + 1)), (0, vA G 58), (1, vI l1), (2, vI l2)]) e_X8_crossedSet_1.2.2.1 (by decide) rfl ?_
    refine R_ls (ls2 := [(0, vA G 58), (1, vI l1), (2, vI l2), (3, vI (l2 + 1))]) [1, 2, 3, 0] rfl ?_
    exact h
theorem S_X8_crossedSet_19 {G : Kg} {σ : Kmem} {Q : Int → Kmem → Prop} {c l1 l2 l3 : Int} (hc : isC c) (h : (σ 58 0 = c) ∧ (rI l3) ∧ (rI (σ c 5)) ∧ ((σ c 5 ≤ l3 → E_X8_crossedSet_4 G l1 (l2 + 1) σ Q) ∧ (l3 < σ c 5 → Run G WX M_X8_doCross 0 0 0 [vA G 58, vI l2, vI l3] σ (fun r7 s8 => (rI r7) ∧ ((r7 = 0 → E_X8_crossedSet_19 G l1 l2 (l3 + 1) s8 Q) ∧ (r7 ≠ 0 → Run G WX M_X8_shorterOf 0 0 0 [vA G 58, vI l2, vI l3] s8 (fun r10 s11 => E_X8_crossedSet_19 G (kor l1 r10) l2 (l3 + 1) s11 Q))))))) : E_X8_crossedSet_19 G l1 l2 l3 σ Q := by
  refine R_iload_n e_X8_crossedSet_1.2.2.2.1 3 rfl ?_
  refine R_aload_n e_X8_crossedSet_1.2.2.2.2.1 0 rfl ?_
  obtain ⟨q4, h⟩ := h
  refine R_getA 8 0 c e_X8_crossedSet_1.2.2.2.2.2.1 f_X8_31 kx_58 (fun _ _ => rfl) ((sky_c _).trans q4) (isC_n hc) ?_
  refine R_getI 0 5 5 e_X8_crossedSet_1.2.2.2.2.2.2.1 f_X8_54 (kC_self hc) (fun _ _ => rfl) rfl ?_
  obtain ⟨q5, h⟩ := h
  obtain ⟨q6, h⟩ := h
  refine R_icmp_ge 54 e_X8_crossedSet_1.2.2.2.2.2.2.2.1 (by decide) q5 q6 (fun q => ?_) (fun q => ?_)
  · replace h := h.1 q
    refine R_iinc (ls2 := [(2, vI (l2 + 1)), (0, vA G 58), (1, vI l1), (3, vI l3)]) e_X8_crossedSet_3.2.2.1 2 rfl (by decide) rfl ?_
    refine R_goto 4 e_X8_crossedSet_3.2.2.2.1 (by decide) ?_
    refine R_ls (ls2 := [(0, vA G 58), (1, vI l1), (2, vI (l2 + 1))]) [1, 2, 0] rfl ?_
    exact h
  · replace h := h.2 q
    refine R_aload_n e_X8_crossedSet_1.2.2.2.2.2.2.2.2.1 0 rfl ?_
    refine R_iload_n e_X8_crossedSet_1.2.2.2.2.2.2.2.2.2 2 rfl ?_
    refine R_iload_n e_X8_crossedSet_2.1 3 rfl ?_
    refine R_callV (mc := 0) (ms := 0) (mc' := 0) (ms' := 0) (M' := M_X8_doCross) (d' := 0) (as := [vI l2, vI l3]) (st := []) 8 2 e_X8_crossedSet_2.2.1 (kCVof m_X8_doCross l_X8_139) rfl (by decide) kx_58 (by decide) (by decide) rfl rfl (by show (0 : Nat) ≤ 8; decide) ?_
    refine Run.mono h (fun r7 s8 h => ?_)
    refine R_eqs (st2 := [vI r7]) rfl rfl ?_
    obtain ⟨q9, h⟩ := h
    refine R_if_eq 48 e_X8_crossedSet_2.2.2.1 (by decide) q9  (fun q => ?_) (fun q => ?_)
    · replace h := h.1 q
      refine R_iinc (ls2 := [(3, vI (l3 + 1)), (0, vA G 58), (1, vI l1), (2, vI l2)]) e_X8_crossedSet_3.1 3 rfl (by decide) rfl ?_
      refine R_goto 19 e_X8_crossedSet_3.2.1 (by decide) ?_
      refine R_ls (ls2 := [(0, vA G 58), (1, vI l1), (2, vI l2), (3, vI (l3 + 1))]) [1, 2, 3, 0] rfl ?_
      exact h
    · replace h := h.2 q
      refine R_iload_n e_X8_crossedSet_2.2.2.2.1 1 rfl ?_
      refine R_aload_n e_X8_crossedSet_2.2.2.2.2.1 0 rfl ?_
      refine R_iload_n e_X8_crossedSet_2.2.2.2.2.2.1 2 rfl ?_
      refine R_iload_n e_X8_crossedSet_2.2.2.2.2.2.2.1 3 rfl ?_
      refine R_callV (mc := 0) (ms := 0) (mc' := 0) (ms' := 0) (M' := M_X8_shorterOf) (d' := 0) (as := [vI l2, vI l3]) (st := [vI l1]) 8 2 e_X8_crossedSet_2.2.2.2.2.2.2.2.1 (kCVof m_X8_shorterOf l_X8_143) rfl (by decide) kx_58 (by decide) (by decide) rfl rfl (by show (1 : Nat) ≤ 8; decide) ?_
      refine Run.mono h (fun r10 s11 h => ?_)
      refine R_eqs (st2 := [vI r10, vI l1]) rfl rfl ?_
      refine R_ior e_X8_crossedSet_2.2.2.2.2.2.2.2.2.1 ?_
      refine R_istore_n (ls2 := [(1, vI (kor l1 r10)), (0, vA G 58), (2, vI l2), (3, vI l3)]) e_X8_crossedSet_2.2.2.2.2.2.2.2.2.2 (by decide) rfl ?_
      refine R_iinc (ls2 := [(3, vI (l3 + 1)), (1, vI (kor l1 r10)), (0, vA G 58), (2, vI l2)]) e_X8_crossedSet_3.1 3 rfl (by decide) rfl ?_
      refine R_goto 19 e_X8_crossedSet_3.2.1 (by decide) ?_
      refine R_ls (ls2 := [(0, vA G 58), (1, vI (kor l1 r10)), (2, vI l2), (3, vI (l3 + 1))]) [2, 1, 3, 0] rfl ?_
      exact h
/-! KiteLand$Sky.shorterOf(II)I -/
theorem e_X8_shorterOf_0 : decode cX8_shorterOf 0 = .ok (.aload_n 0, 1) ∧ decode cX8_shorterOf 1 = .ok (.getfield 31, 3) ∧ decode cX8_shorterOf 4 = .ok (.getfield 57, 3) ∧ decode cX8_shorterOf 7 = .ok (.iload_n 1, 1) ∧ decode cX8_shorterOf 8 = .ok (.aaload, 1) ∧ decode cX8_shorterOf 9 = .ok (.getfield 61, 3) ∧ decode cX8_shorterOf 12 = .ok (.aload_n 0, 1) ∧ decode cX8_shorterOf 13 = .ok (.getfield 31, 3) ∧ decode cX8_shorterOf 16 = .ok (.getfield 57, 3) ∧ decode cX8_shorterOf 19 = .ok (.iload_n 2, 1) := by decide +kernel
theorem e_X8_shorterOf_1 : decode cX8_shorterOf 20 = .ok (.aaload, 1) ∧ decode cX8_shorterOf 21 = .ok (.getfield 61, 3) ∧ decode cX8_shorterOf 24 = .ok (.isub, 1) ∧ decode cX8_shorterOf 25 = .ok (.istore_n 3, 1) ∧ decode cX8_shorterOf 26 = .ok (.iload_n 3, 1) ∧ decode cX8_shorterOf 27 = .ok (.ifCond .ne 11, 3) ∧ decode cX8_shorterOf 30 = .ok (.iconst 1, 1) ∧ decode cX8_shorterOf 31 = .ok (.iload_n 1, 1) ∧ decode cX8_shorterOf 32 = .ok (.ishl, 1) ∧ decode cX8_shorterOf 33 = .ok (.iconst 1, 1) := by decide +kernel
theorem e_X8_shorterOf_2 : decode cX8_shorterOf 34 = .ok (.iload_n 2, 1) ∧ decode cX8_shorterOf 35 = .ok (.ishl, 1) ∧ decode cX8_shorterOf 36 = .ok (.ior, 1) ∧ decode cX8_shorterOf 37 = .ok (.ireturn, 1) ∧ decode cX8_shorterOf 38 = .ok (.iload_n 3, 1) ∧ decode cX8_shorterOf 39 = .ok (.ifCond .ge 9, 3) ∧ decode cX8_shorterOf 42 = .ok (.iconst 1, 1) ∧ decode cX8_shorterOf 43 = .ok (.iload_n 1, 1) ∧ decode cX8_shorterOf 44 = .ok (.ishl, 1) ∧ decode cX8_shorterOf 45 = .ok (.goto 6, 3) := by decide +kernel
theorem e_X8_shorterOf_3 : decode cX8_shorterOf 48 = .ok (.iconst 1, 1) ∧ decode cX8_shorterOf 49 = .ok (.iload_n 2, 1) ∧ decode cX8_shorterOf 50 = .ok (.ishl, 1) ∧ decode cX8_shorterOf 51 = .ok (.ireturn, 1) := by decide +kernel
theorem S_X8_shorterOf {G : Kg} {σ : Kmem} {Q : Int → Kmem → Prop} {l1 l2 c : Int} (hc : isC c) (h : (σ 58 0 = c) ∧ (0 ≤ l1 ∧ l1 < 6) ∧ (σ 58 0 = c) ∧ (0 ≤ l2 ∧ l2 < 6) ∧ (rI ((σ (c + 6 + l1) 4) - (σ (c + 6 + l2) 4))) ∧ (((σ (c + 6 + l1) 4) - (σ (c + 6 + l2) 4) ≠ 0 → ((0 ≤ (σ (c + 6 + l1) 4) - (σ (c + 6 + l2) 4) → Q (kshl 1 l2) σ) ∧ ((σ (c + 6 + l1) 4) - (σ (c + 6 + l2) 4) < 0 → Q (kshl 1 l1) σ))) ∧ ((σ (c + 6 + l1) 4) - (σ (c + 6 + l2) 4) = 0 → Q (kor (kshl 1 l1) (kshl 1 l2)) σ))) : Run G WX M_X8_shorterOf 0 0 0 [vA G 58, vI l1, vI l2] σ Q := by
  refine Run.of (by decide +kernel) (by show (3 : Nat) ≤ 4; decide) ?_
  show Ex G WX M_X8_shorterOf 0 0 0 0 [(0, vA G 58), (1, vI l1), (2, vI l2)] [] σ Q
  refine R_aload_n e_X8_shorterOf_0.1 0 rfl ?_
  obtain ⟨q1, h⟩ := h
  refine R_getA 8 0 c e_X8_shorterOf_0.2.1 f_X8_31 kx_58 (fun _ _ => rfl) ((sky_c _).trans q1) (isC_n hc) ?_
  refine R_getA 0 10 (c + 3) e_X8_shorterOf_0.2.2.1 f_X8_57 (kC_self hc) (fun _ _ => rfl) (kC_r10 hc) (kC_n3 hc) ?_
  refine R_iload_n e_X8_shorterOf_0.2.2.2.1 1 rfl ?_
  obtain ⟨q2, h⟩ := h
  refine R_aald 27 6 (c + 6 + l1) e_X8_shorterOf_0.2.2.2.2.1 (by decide) (kC_kites hc) q2 (kC_kiteAt hc q2) (kC_kiteN hc q2) ?_
  refine R_getI 3 4 4 e_X8_shorterOf_0.2.2.2.2.2.1 f_X8_61 (kC_kite hc q2) (fun _ _ => rfl) rfl ?_
  refine R_aload_n e_X8_shorterOf_0.2.2.2.2.2.2.1 0 rfl ?_
  obtain ⟨q3, h⟩ := h
  refine R_getA 8 0 c e_X8_shorterOf_0.2.2.2.2.2.2.2.1 f_X8_31 kx_58 (fun _ _ => rfl) ((sky_c _).trans q3) (isC_n hc) ?_
  refine R_getA 0 10 (c + 3) e_X8_shorterOf_0.2.2.2.2.2.2.2.2.1 f_X8_57 (kC_self hc) (fun _ _ => rfl) (kC_r10 hc) (kC_n3 hc) ?_
  refine R_iload_n e_X8_shorterOf_0.2.2.2.2.2.2.2.2.2 2 rfl ?_
  obtain ⟨q4, h⟩ := h
  refine R_aald 27 6 (c + 6 + l2) e_X8_shorterOf_1.1 (by decide) (kC_kites hc) q4 (kC_kiteAt hc q4) (kC_kiteN hc q4) ?_
  refine R_getI 3 4 4 e_X8_shorterOf_1.2.1 f_X8_61 (kC_kite hc q4) (fun _ _ => rfl) rfl ?_
  refine R_isub e_X8_shorterOf_1.2.2.1 ?_
  refine R_istore_n (ls2 := [(3, vI ((σ (c + 6 + l1) 4) - (σ (c + 6 + l2) 4))), (0, vA G 58), (1, vI l1), (2, vI l2)]) e_X8_shorterOf_1.2.2.2.1 (by decide) rfl ?_
  refine R_iload_n e_X8_shorterOf_1.2.2.2.2.1 0 rfl ?_
  obtain ⟨q5, h⟩ := h
  refine R_if_ne 38 e_X8_shorterOf_1.2.2.2.2.2.1 (by decide) q5  (fun q => ?_) (fun q => ?_)
  · replace h := h.1 q
    refine R_iload_n e_X8_shorterOf_2.2.2.2.2.1 0 rfl ?_
    refine R_if_ge 48 e_X8_shorterOf_2.2.2.2.2.2.1 (by decide) q5  (fun q => ?_) (fun q => ?_)
    · replace h := h.1 q
      refine R_iconst e_X8_shorterOf_3.1 ?_
      refine R_iload_n e_X8_shorterOf_3.2.1 3 rfl ?_
      refine R_ishl e_X8_shorterOf_3.2.2.1 ?_
      exact R_ireturn e_X8_shorterOf_3.2.2.2 rfl h
    · replace h := h.2 q
      refine R_iconst e_X8_shorterOf_2.2.2.2.2.2.2.1 ?_
      refine R_iload_n e_X8_shorterOf_2.2.2.2.2.2.2.2.1 2 rfl ?_
      refine R_ishl e_X8_shorterOf_2.2.2.2.2.2.2.2.2.1 ?_
      refine R_goto 51 e_X8_shorterOf_2.2.2.2.2.2.2.2.2.2 (by decide) ?_
      exact R_ireturn e_X8_shorterOf_3.2.2.2 rfl h
  · replace h := h.2 q
    refine R_iconst e_X8_shorterOf_1.2.2.2.2.2.2.1 ?_
    refine R_iload_n e_X8_shorterOf_1.2.2.2.2.2.2.2.1 2 rfl ?_
    refine R_ishl e_X8_shorterOf_1.2.2.2.2.2.2.2.2.1 ?_
    refine R_iconst e_X8_shorterOf_1.2.2.2.2.2.2.2.2.2 ?_
    refine R_iload_n e_X8_shorterOf_2.1 3 rfl ?_
    refine R_ishl e_X8_shorterOf_2.2.1 ?_
    refine R_ior e_X8_shorterOf_2.2.2.1 ?_
    exact R_ireturn e_X8_shorterOf_2.2.2.2.1 rfl h
/-! KiteLand$Sky.doCross(II)Z -/
theorem e_X8_doCross_0 : decode cX8_doCross 0 = .ok (.aload_n 0, 1) ∧ decode cX8_doCross 1 = .ok (.getfield 9, 3) ∧ decode cX8_doCross 4 = .ok (.iload_n 1, 1) ∧ decode cX8_doCross 5 = .ok (.ishr, 1) ∧ decode cX8_doCross 6 = .ok (.aload_n 0, 1) ∧ decode cX8_doCross 7 = .ok (.getfield 9, 3) ∧ decode cX8_doCross 10 = .ok (.iload_n 2, 1) ∧ decode cX8_doCross 11 = .ok (.ishr, 1) ∧ decode cX8_doCross 12 = .ok (.iand, 1) ∧ decode cX8_doCross 13 = .ok (.iconst 1, 1) := by decide +kernel
theorem e_X8_doCross_1 : decode cX8_doCross 14 = .ok (.iand, 1) ∧ decode cX8_doCross 15 = .ok (.ifCond .ne 5, 3) ∧ decode cX8_doCross 18 = .ok (.iconst 0, 1) ∧ decode cX8_doCross 19 = .ok (.ireturn, 1) ∧ decode cX8_doCross 20 = .ok (.aload_n 0, 1) ∧ decode cX8_doCross 21 = .ok (.getfield 31, 3) ∧ decode cX8_doCross 24 = .ok (.getfield 57, 3) ∧ decode cX8_doCross 27 = .ok (.iload_n 1, 1) ∧ decode cX8_doCross 28 = .ok (.aaload, 1) ∧ decode cX8_doCross 29 = .ok (.astore_n 3, 1) := by decide +kernel
theorem e_X8_doCross_2 : decode cX8_doCross 30 = .ok (.aload_n 0, 1) ∧ decode cX8_doCross 31 = .ok (.getfield 31, 3) ∧ decode cX8_doCross 34 = .ok (.getfield 57, 3) ∧ decode cX8_doCross 37 = .ok (.iload_n 2, 1) ∧ decode cX8_doCross 38 = .ok (.aaload, 1) ∧ decode cX8_doCross 39 = .ok (.astore 4, 2) ∧ decode cX8_doCross 41 = .ok (.aload_n 0, 1) ∧ decode cX8_doCross 42 = .ok (.getfield 15, 3) ∧ decode cX8_doCross 45 = .ok (.iload_n 1, 1) ∧ decode cX8_doCross 46 = .ok (.iaload, 1) := by decide +kernel
theorem e_X8_doCross_3 : decode cX8_doCross 47 = .ok (.aload_n 3, 1) ∧ decode cX8_doCross 48 = .ok (.getfield 69, 3) ∧ decode cX8_doCross 51 = .ok (.isub, 1) ∧ decode cX8_doCross 52 = .ok (.istore 5, 2) ∧ decode cX8_doCross 54 = .ok (.aload_n 0, 1) ∧ decode cX8_doCross 55 = .ok (.getfield 19, 3) ∧ decode cX8_doCross 58 = .ok (.iload_n 1, 1) ∧ decode cX8_doCross 59 = .ok (.iaload, 1) ∧ decode cX8_doCross 60 = .ok (.aload_n 3, 1) ∧ decode cX8_doCross 61 = .ok (.getfield 75, 3) := by decide +kernel
theorem e_X8_doCross_4 : decode cX8_doCross 64 = .ok (.isub, 1) ∧ decode cX8_doCross 65 = .ok (.istore 6, 2) ∧ decode cX8_doCross 67 = .ok (.aload_n 0, 1) ∧ decode cX8_doCross 68 = .ok (.getfield 15, 3) ∧ decode cX8_doCross 71 = .ok (.iload_n 2, 1) ∧ decode cX8_doCross 72 = .ok (.iaload, 1) ∧ decode cX8_doCross 73 = .ok (.aload 4, 2) ∧ decode cX8_doCross 75 = .ok (.getfield 69, 3) ∧ decode cX8_doCross 78 = .ok (.isub, 1) ∧ decode cX8_doCross 79 = .ok (.istore 7, 2) := by decide +kernel
theorem e_X8_doCross_5 : decode cX8_doCross 81 = .ok (.aload_n 0, 1) ∧ decode cX8_doCross 82 = .ok (.getfield 19, 3) ∧ decode cX8_doCross 85 = .ok (.iload_n 2, 1) ∧ decode cX8_doCross 86 = .ok (.iaload, 1) ∧ decode cX8_doCross 87 = .ok (.aload 4, 2) ∧ decode cX8_doCross 89 = .ok (.getfield 75, 3) ∧ decode cX8_doCross 92 = .ok (.isub, 1) ∧ decode cX8_doCross 93 = .ok (.istore 8, 2) ∧ decode cX8_doCross 95 = .ok (.aload 4, 2) ∧ decode cX8_doCross 97 = .ok (.getfield 69, 3) := by decide +kernel
theorem e_X8_doCross_6 : decode cX8_doCross 100 = .ok (.aload_n 3, 1) ∧ decode cX8_doCross 101 = .ok (.getfield 69, 3) ∧ decode cX8_doCross 104 = .ok (.isub, 1) ∧ decode cX8_doCross 105 = .ok (.istore 9, 2) ∧ decode cX8_doCross 107 = .ok (.aload 4, 2) ∧ decode cX8_doCross 109 = .ok (.getfield 75, 3) ∧ decode cX8_doCross 112 = .ok (.aload_n 3, 1) ∧ decode cX8_doCross 113 = .ok (.getfield 75, 3) ∧ decode cX8_doCross 116 = .ok (.isub, 1) ∧ decode cX8_doCross 117 = .ok (.istore 10, 2) := by decide +kernel
theorem e_X8_doCross_7 : decode cX8_doCross 119 = .ok (.iload 5, 2) ∧ decode cX8_doCross 121 = .ok (.iload 8, 2) ∧ decode cX8_doCross 123 = .ok (.imul, 1) ∧ decode cX8_doCross 124 = .ok (.iload 6, 2) ∧ decode cX8_doCross 126 = .ok (.iload 7, 2) ∧ decode cX8_doCross 128 = .ok (.imul, 1) ∧ decode cX8_doCross 129 = .ok (.isub, 1) ∧ decode cX8_doCross 130 = .ok (.istore 11, 2) ∧ decode cX8_doCross 132 = .ok (.iload 5, 2) ∧ decode cX8_doCross 134 = .ok (.iload 10, 2) := by decide +kernel
theorem e_X8_doCross_8 : decode cX8_doCross 136 = .ok (.imul, 1) ∧ decode cX8_doCross 137 = .ok (.iload 6, 2) ∧ decode cX8_doCross 139 = .ok (.iload 9, 2) ∧ decode cX8_doCross 141 = .ok (.imul, 1) ∧ decode cX8_doCross 142 = .ok (.isub, 1) ∧ decode cX8_doCross 143 = .ok (.istore 12, 2) ∧ decode cX8_doCross 145 = .ok (.iload 7, 2) ∧ decode cX8_doCross 147 = .ok (.iload 10, 2) ∧ decode cX8_doCross 149 = .ok (.imul, 1) ∧ decode cX8_doCross 150 = .ok (.iload 8, 2) := by decide +kernel
theorem e_X8_doCross_9 : decode cX8_doCross 152 = .ok (.iload 9, 2) ∧ decode cX8_doCross 154 = .ok (.imul, 1) ∧ decode cX8_doCross 155 = .ok (.isub, 1) ∧ decode cX8_doCross 156 = .ok (.istore 13, 2) ∧ decode cX8_doCross 158 = .ok (.iload 12, 2) ∧ decode cX8_doCross 160 = .ok (.iload 12, 2) ∧ decode cX8_doCross 162 = .ok (.iload 11, 2) ∧ decode cX8_doCross 164 = .ok (.iadd, 1) ∧ decode cX8_doCross 165 = .ok (.imul, 1) ∧ decode cX8_doCross 166 = .ok (.ifCond .ge 18, 3) := by decide +kernel
theorem e_X8_doCross_10 : decode cX8_doCross 169 = .ok (.iload 13, 2) ∧ decode cX8_doCross 171 = .ok (.iload 13, 2) ∧ decode cX8_doCross 173 = .ok (.iload 11, 2) ∧ decode cX8_doCross 175 = .ok (.iadd, 1) ∧ decode cX8_doCross 176 = .ok (.imul, 1) ∧ decode cX8_doCross 177 = .ok (.ifCond .ge 7, 3) ∧ decode cX8_doCross 180 = .ok (.iconst 1, 1) ∧ decode cX8_doCross 181 = .ok (.goto 4, 3) ∧ decode cX8_doCross 184 = .ok (.iconst 0, 1) ∧ decode cX8_doCross 185 = .ok (.ireturn, 1) := by decide +kernel
theorem S_X8_doCross {G : Kg} {σ : Kmem} {Q : Int → Kmem → Prop} {l1 l2 c : Int} (hc : isC c) (h : (rI (kand (kand (kshr (σ 58 1) l1) (kshr (σ 58 1) l2)) 1)) ∧ ((kand (kand (kshr (σ 58 1) l1) (kshr (σ 58 1) l2)) 1 ≠ 0 → (σ 58 0 = c) ∧ (0 ≤ l1 ∧ l1 < 6) ∧ (σ 58 0 = c) ∧ (0 ≤ l2 ∧ l2 < 6) ∧ (0 ≤ l1 ∧ l1 < 6) ∧ (0 ≤ l1 ∧ l1 < 6) ∧ (0 ≤ l2 ∧ l2 < 6) ∧ (0 ≤ l2 ∧ l2 < 6) ∧ (rI (((((σ 59 l1) - (σ (c + 6 + l1) 1)) * ((σ (c + 6 + l2) 2) - (σ (c + 6 + l1) 2))) - (((σ 60 l1) - (σ (c + 6 + l1) 2)) * ((σ (c + 6 + l2) 1) - (σ (c + 6 + l1) 1)))) * (((((σ 59 l1) - (σ (c + 6 + l1) 1)) * ((σ (c + 6 + l2) 2) - (σ (c + 6 + l1) 2))) - (((σ 60 l1) - (σ (c + 6 + l1) 2)) * ((σ (c + 6 + l2) 1) - (σ (c + 6 + l1) 1)))) + ((((σ 59 l1) - (σ (c + 6 + l1) 1)) * ((σ 60 l2) - (σ (c + 6 + l2) 2))) - (((σ 60 l1) - (σ (c + 6 + l1) 2)) * ((σ 59 l2) - (σ (c + 6 + l2) 1))))))) ∧ ((0 ≤ ((((σ 59 l1) - (σ (c + 6 + l1) 1)) * ((σ (c + 6 + l2) 2) - (σ (c + 6 + l1) 2))) - (((σ 60 l1) - (σ (c + 6 + l1) 2)) * ((σ (c + 6 + l2) 1) - (σ (c + 6 + l1) 1)))) * (((((σ 59 l1) - (σ (c + 6 + l1) 1)) * ((σ (c + 6 + l2) 2) - (σ (c + 6 + l1) 2))) - (((σ 60 l1) - (σ (c + 6 + l1) 2)) * ((σ (c + 6 + l2) 1) - (σ (c + 6 + l1) 1)))) + ((((σ 59 l1) - (σ (c + 6 + l1) 1)) * ((σ 60 l2) - (σ (c + 6 + l2) 2))) - (((σ 60 l1) - (σ (c + 6 + l1) 2)) * ((σ 59 l2) - (σ (c + 6 + l2) 1))))) → Q 0 σ) ∧ (((((σ 59 l1) - (σ (c + 6 + l1) 1)) * ((σ (c + 6 + l2) 2) - (σ (c + 6 + l1) 2))) - (((σ 60 l1) - (σ (c + 6 + l1) 2)) * ((σ (c + 6 + l2) 1) - (σ (c + 6 + l1) 1)))) * (((((σ 59 l1) - (σ (c + 6 + l1) 1)) * ((σ (c + 6 + l2) 2) - (σ (c + 6 + l1) 2))) - (((σ 60 l1) - (σ (c + 6 + l1) 2)) * ((σ (c + 6 + l2) 1) - (σ (c + 6 + l1) 1)))) + ((((σ 59 l1) - (σ (c + 6 + l1) 1)) * ((σ 60 l2) - (σ (c + 6 + l2) 2))) - (((σ 60 l1) - (σ (c + 6 + l1) 2)) * ((σ 59 l2) - (σ (c + 6 + l2) 1))))) < 0 → (rI (((((σ 59 l2) - (σ (c + 6 + l2) 1)) * ((σ (c + 6 + l2) 2) - (σ (c + 6 + l1) 2))) - (((σ 60 l2) - (σ (c + 6 + l2) 2)) * ((σ (c + 6 + l2) 1) - (σ (c + 6 + l1) 1)))) * (((((σ 59 l2) - (σ (c + 6 + l2) 1)) * ((σ (c + 6 + l2) 2) - (σ (c + 6 + l1) 2))) - (((σ 60 l2) - (σ (c + 6 + l2) 2)) * ((σ (c + 6 + l2) 1) - (σ (c + 6 + l1) 1)))) + ((((σ 59 l1) - (σ (c + 6 + l1) 1)) * ((σ 60 l2) - (σ (c + 6 + l2) 2))) - (((σ 60 l1) - (σ (c + 6 + l1) 2)) * ((σ 59 l2) - (σ (c + 6 + l2) 1))))))) ∧ ((0 ≤ ((((σ 59 l2) - (σ (c + 6 + l2) 1)) * ((σ (c + 6 + l2) 2) - (σ (c + 6 + l1) 2))) - (((σ 60 l2) - (σ (c + 6 + l2) 2)) * ((σ (c + 6 + l2) 1) - (σ (c + 6 + l1) 1)))) * (((((σ 59 l2) - (σ (c + 6 + l2) 1)) * ((σ (c + 6 + l2) 2) - (σ (c + 6 + l1) 2))) - (((σ 60 l2) - (σ (c + 6 + l2) 2)) * ((σ (c + 6 + l2) 1) - (σ (c + 6 + l1) 1)))) + ((((σ 59 l1) - (σ (c + 6 + l1) 1)) * ((σ 60 l2) - (σ (c + 6 + l2) 2))) - (((σ 60 l1) - (σ (c + 6 + l1) 2)) * ((σ 59 l2) - (σ (c + 6 + l2) 1))))) → Q 0 σ) ∧ (((((σ 59 l2) - (σ (c + 6 + l2) 1)) * ((σ (c + 6 + l2) 2) - (σ (c + 6 + l1) 2))) - (((σ 60 l2) - (σ (c + 6 + l2) 2)) * ((σ (c + 6 + l2) 1) - (σ (c + 6 + l1) 1)))) * (((((σ 59 l2) - (σ (c + 6 + l2) 1)) * ((σ (c + 6 + l2) 2) - (σ (c + 6 + l1) 2))) - (((σ 60 l2) - (σ (c + 6 + l2) 2)) * ((σ (c + 6 + l2) 1) - (σ (c + 6 + l1) 1)))) + ((((σ 59 l1) - (σ (c + 6 + l1) 1)) * ((σ 60 l2) - (σ (c + 6 + l2) 2))) - (((σ 60 l1) - (σ (c + 6 + l1) 2)) * ((σ 59 l2) - (σ (c + 6 + l2) 1))))) < 0 → Q 1 σ))))) ∧ (kand (kand (kshr (σ 58 1) l1) (kshr (σ 58 1) l2)) 1 = 0 → Q 0 σ))) : Run G WX M_X8_doCross 0 0 0 [vA G 58, vI l1, vI l2] σ Q := by
  refine Run.of (by decide +kernel) (by show (3 : Nat) ≤ 14; decide) ?_
  show Ex G WX M_X8_doCross 0 0 0 0 [(0, vA G 58), (1, vI l1), (2, vI l2)] [] σ Q
  refine R_aload_n e_X8_doCross_0.1 0 rfl ?_
  refine R_getI 8 1 1 e_X8_doCross_0.2.1 f_X8_9 kx_58 (fun _ _ => rfl) rfl ?_
  refine R_iload_n e_X8_doCross_0.2.2.1 1 rfl ?_
  refine R_ishr e_X8_doCross_0.2.2.2.1 ?_
  refine R_aload_n e_X8_doCross_0.2.2.2.2.1 0 rfl ?_
  refine R_getI 8 1 1 e_X8_doCross_0.2.2.2.2.2.1 f_X8_9 kx_58 (fun _ _ => rfl) rfl ?_
  refine R_iload_n e_X8_doCross_0.2.2.2.2.2.2.1 2 rfl ?_
  refine R_ishr e_X8_doCross_0.2.2.2.2.2.2.2.1 ?_
  refine R_iand e_X8_doCross_0.2.2.2.2.2.2.2.2.1 ?_
  refine R_iconst e_X8_doCross_0.2.2.2.2.2.2.2.2.2 ?_
  refine R_iand e_X8_doCross_1.1 ?_
  obtain ⟨q1, h⟩ := h
  refine R_if_ne 20 e_X8_doCross_1.2.1 (by decide) q1  (fun q => ?_) (fun q => ?_)
  · replace h := h.1 q
    refine R_aload_n e_X8_doCross_1.2.2.2.2.1 0 rfl ?_
    obtain ⟨q2, h⟩ := h
    refine R_getA 8 0 c e_X8_doCross_1.2.2.2.2.2.1 f_X8_31 kx_58 (fun _ _ => rfl) ((sky_c _).trans q2) (isC_n hc) ?_
    refine R_getA 0 10 (c + 3) e_X8_doCross_1.2.2.2.2.2.2.1 f_X8_57 (kC_self hc) (fun _ _ => rfl) (kC_r10 hc) (kC_n3 hc) ?_
    refine R_iload_n e_X8_doCross_1.2.2.2.2.2.2.2.1 1 rfl ?_
    obtain ⟨q3, h⟩ := h
    refine R_aald 27 6 (c + 6 + l1) e_X8_doCross_1.2.2.2.2.2.2.2.2.1 (by decide) (kC_kites hc) q3 (kC_kiteAt hc q3) (kC_kiteN hc q3) ?_
    refine R_astore_n (ls2 := [(3, vA G (c + 6 + l1)), (0, vA G 58), (1, vI l1), (2, vI l2)]) e_X8_doCross_1.2.2.2.2.2.2.2.2.2 (by decide) rfl ?_
    refine R_aload_n e_X8_doCross_2.1 1 rfl ?_
    obtain ⟨q4, h⟩ := h
    refine R_getA 8 0 c e_X8_doCross_2.2.1 f_X8_31 kx_58 (fun _ _ => rfl) ((sky_c _).trans q4) (isC_n hc) ?_
    refine R_getA 0 10 (c + 3) e_X8_doCross_2.2.2.1 f_X8_57 (kC_self hc) (fun _ _ => rfl) (kC_r10 hc) (kC_n3 hc) ?_
    refine R_iload_n e_X8_doCross_2.2.2.2.1 3 rfl ?_
    obtain ⟨q5, h⟩ := h
    refine R_aald 27 6 (c + 6 + l2) e_X8_doCross_2.2.2.2.2.1 (by decide) (kC_kites hc) q5 (kC_kiteAt hc q5) (kC_kiteN hc q5) ?_
    refine R_astore (ls2 := [(4, vA G (c + 6 + l2)), (3, vA G (c + 6 + l1)), (0, vA G 58), (1, vI l1), (2, vI l2)]) e_X8_doCross_2.2.2.2.2.2.1 (by decide) rfl ?_
    refine R_aload_n e_X8_doCross_2.2.2.2.2.2.2.1 2 rfl ?_
    refine R_getA 8 2 59 e_X8_doCross_2.2.2.2.2.2.2.2.1 f_X8_15 kx_58 (fun _ _ => rfl) rx_58_2 (by decide) ?_
    refine R_iload_n e_X8_doCross_2.2.2.2.2.2.2.2.2.1 3 rfl ?_
    obtain ⟨q6, h⟩ := h
    refine R_iald 6 e_X8_doCross_2.2.2.2.2.2.2.2.2.2 kxa_59 q6 ?_
    refine R_aload_n e_X8_doCross_3.1 1 rfl ?_
    refine R_getI 3 1 1 e_X8_doCross_3.2.1 f_X8_69 (kC_kite hc q3) (fun _ _ => rfl) rfl ?_
    refine R_isub e_X8_doCross_3.2.2.1 ?_
    refine R_istore (ls2 := [(5, vI ((σ 59 l1) - (σ (c + 6 + l1) 1))), (4, vA G (c + 6 + l2)), (3, vA G (c + 6 + l1)), (0, vA G 58), (1, vI l1), (2, vI l2)]) e_X8_doCross_3.2.2.2.1 (by decide) rfl ?_
    refine R_aload_n e_X8_doCross_3.2.2.2.2.1 3 rfl ?_
    refine R_getA 8 3 60 e_X8_doCross_3.2.2.2.2.2.1 f_X8_19 kx_58 (fun _ _ => rfl) rx_58_3 (by decide) ?_
    refine R_iload_n e_X8_doCross_3.2.2.2.2.2.2.1 4 rfl ?_
    obtain ⟨q7, h⟩ := h
    refine R_iald 6 e_X8_doCross_3.2.2.2.2.2.2.2.1 kxa_60 q7 ?_
    refine R_aload_n e_X8_doCross_3.2.2.2.2.2.2.2.2.1 2 rfl ?_
    refine R_getI 3 2 2 e_X8_doCross_3.2.2.2.2.2.2.2.2.2 f_X8_75 (kC_kite hc q3) (fun _ _ => rfl) rfl ?_
    refine R_isub e_X8_doCross_4.1 ?_
    refine R_istore (ls2 := [(6, vI ((σ 60 l1) - (σ (c + 6 + l1) 2))), (5, vI ((σ 59 l1) - (σ (c + 6 + l1) 1))), (4, vA G (c + 6 + l2)), (3, vA G (c + 6 + l1)), (0, vA G 58), (1, vI l1), (2, vI l2)]) e_X8_doCross_4.2.1 (by decide) rfl ?_
    refine R_aload_n e_X8_doCross_4.2.2.1 4 rfl ?_
    refine R_getA 8 2 59 e_X8_doCross_4.2.2.2.1 f_X8_15 kx_58 (fun _ _ => rfl) rx_58_2 (by decide) ?_
    refine R_iload_n e_X8_doCross_4.2.2.2.2.1 6 rfl ?_
    obtain ⟨q8, h⟩ := h
    refine R_iald 6 e_X8_doCross_4.2.2.2.2.2.1 kxa_59 q8 ?_
    refine R_aload e_X8_doCross_4.2.2.2.2.2.2.1 2 rfl ?_
    refine R_getI 3 1 1 e_X8_doCross_4.2.2.2.2.2.2.2.1 f_X8_69 (kC_kite hc q5) (fun _ _ => rfl) rfl ?_
    refine R_isub e_X8_doCross_4.2.2.2.2.2.2.2.2.1 ?_
    refine R_istore (ls2 := [(7, vI ((σ 59 l2) - (σ (c + 6 + l2) 1))), (6, vI ((σ 60 l1) - (σ (c + 6 + l1) 2))), (5, vI ((σ 59 l1) - (σ (c + 6 + l1) 1))), (4, vA G (c + 6 + l2)), (3, vA G (c + 6 + l1)), (0, vA G 58), (1, vI l1), (2, vI l2)]) e_X8_doCross_4.2.2.2.2.2.2.2.2.2 (by decide) rfl ?_
    refine R_aload_n e_X8_doCross_5.1 5 rfl ?_
    refine R_getA 8 3 60 e_X8_doCross_5.2.1 f_X8_19 kx_58 (fun _ _ => rfl) rx_58_3 (by decide) ?_
    refine R_iload_n e_X8_doCross_5.2.2.1 7 rfl ?_
    obtain ⟨q9, h⟩ := h
    refine R_iald 6 e_X8_doCross_5.2.2.2.1 kxa_60 q9 ?_
    refine R_aload e_X8_doCross_5.2.2.2.2.1 3 rfl ?_
    refine R_getI 3 2 2 e_X8_doCross_5.2.2.2.2.2.1 f_X8_75 (kC_kite hc q5) (fun _ _ => rfl) rfl ?_
    refine R_isub e_X8_doCross_5.2.2.2.2.2.2.1 ?_
    refine R_istore (ls2 := [(8, vI ((σ 60 l2) - (σ (c + 6 + l2) 2))), (7, vI ((σ 59 l2) - (σ (c + 6 + l2) 1))), (6, vI ((σ 60 l1) - (σ (c + 6 + l1) 2))), (5, vI ((σ 59 l1) - (σ (c + 6 + l1) 1))), (4, vA G (c + 6 + l2)), (3, vA G (c + 6 + l1)), (0, vA G 58), (1, vI l1), (2, vI l2)]) e_X8_doCross_5.2.2.2.2.2.2.2.1 (by decide) rfl ?_
    refine R_aload e_X8_doCross_5.2.2.2.2.2.2.2.2.1 4 rfl ?_
    refine R_getI 3 1 1 e_X8_doCross_5.2.2.2.2.2.2.2.2.2 f_X8_69 (kC_kite hc q5) (fun _ _ => rfl) rfl ?_
    refine R_aload_n e_X8_doCross_6.1 5 rfl ?_
    refine R_getI 3 1 1 e_X8_doCross_6.2.1 f_X8_69 (kC_kite hc q3) (fun _ _ => rfl) rfl ?_
    refine R_isub e_X8_doCross_6.2.2.1 ?_
    refine R_istore (ls2 := [(9, vI ((σ (c + 6 + l2) 1) - (σ (c + 6 + l1) 1))), (8, vI ((σ 60 l2) - (σ (c + 6 + l2) 2))), (7, vI ((σ 59 l2) - (σ (c + 6 + l2) 1))), (6, vI ((σ 60 l1) - (σ (c + 6 + l1) 2))), (5, vI ((σ 59 l1) - (σ (c + 6 + l1) 1))), (4, vA G (c + 6 + l2)), (3, vA G (c + 6 + l1)), (0, vA G 58), (1, vI l1), (2, vI l2)]) e_X8_doCross_6.2.2.2.1 (by decide) rfl ?_
    refine R_aload e_X8_doCross_6.2.2.2.2.1 5 rfl ?_
    refine R_getI 3 2 2 e_X8_doCross_6.2.2.2.2.2.1 f_X8_75 (kC_kite hc q5) (fun _ _ => rfl) rfl ?_
    refine R_aload_n e_X8_doCross_6.2.2.2.2.2.2.1 6 rfl ?_
    refine R_getI 3 2 2 e_X8_doCross_6.2.2.2.2.2.2.2.1 f_X8_75 (kC_kite hc q3) (fun _ _ => rfl) rfl ?_
    refine R_isub e_X8_doCross_6.2.2.2.2.2.2.2.2.1 ?_
    refine R_istore (ls2 := [(10, vI ((σ (c + 6 + l2) 2) - (σ (c + 6 + l1) 2))), (9, vI ((σ (c + 6 + l2) 1) - (σ (c + 6 + l1) 1))), (8, vI ((σ 60 l2) - (σ (c + 6 + l2) 2))), (7, vI ((σ 59 l2) - (σ (c + 6 + l2) 1))), (6, vI ((σ 60 l1) - (σ (c + 6 + l1) 2))), (5, vI ((σ 59 l1) - (σ (c + 6 + l1) 1))), (4, vA G (c + 6 + l2)), (3, vA G (c + 6 + l1)), (0, vA G 58), (1, vI l1), (2, vI l2)]) e_X8_doCross_6.2.2.2.2.2.2.2.2.2 (by decide) rfl ?_
    refine R_iload e_X8_doCross_7.1 5 rfl ?_
    refine R_iload e_X8_doCross_7.2.1 2 rfl ?_
    refine R_imul e_X8_doCross_7.2.2.1 ?_
    refine R_iload e_X8_doCross_7.2.2.2.1 4 rfl ?_
    refine R_iload e_X8_doCross_7.2.2.2.2.1 3 rfl ?_
    refine R_imul e_X8_doCross_7.2.2.2.2.2.1 ?_
    refine R_isub e_X8_doCross_7.2.2.2.2.2.2.1 ?_
    refine R_istore (ls2 := [(11, vI ((((σ 59 l1) - (σ (c + 6 + l1) 1)) * ((σ 60 l2) - (σ (c + 6 + l2) 2))) - (((σ 60 l1) - (σ (c + 6 + l1) 2)) * ((σ 59 l2) - (σ (c + 6 + l2) 1))))), (10, vI ((σ (c + 6 + l2) 2) - (σ (c + 6 + l1) 2))), (9, vI ((σ (c + 6 + l2) 1) - (σ (c + 6 + l1) 1))), (8, vI ((σ 60 l2) - (σ (c + 6 + l2) 2))), (7, vI ((σ 59 l2) - (σ (c + 6 + l2) 1))), (6, vI ((σ 60 l1) - (σ (c + 6 + l1) 2))), (5, vI ((σ 59 l1) - (σ (c + 6 + l1) 1))), (4, vA G (c + 6 + l2)), (3, vA G (c + 6 + l1)), (0, vA G 58), (1, vI l1), (2, vI l2)]) e_X8_doCross_7.2.2.2.2.2.2.2.1 (by decide) rfl ?_
    refine R_iload e_X8_doCross_7.2.2.2.2.2.2.2.2.1 6 rfl ?_
    refine R_iload e_X8_doCross_7.2.2.2.2.2.2.2.2.2 1 rfl ?_
    refine R_imul e_X8_doCross_8.1 ?_
    refine R_iload e_X8_doCross_8.2.1 5 rfl ?_
    refine R_iload e_X8_doCross_8.2.2.1 2 rfl ?_
    refine R_imul e_X8_doCross_8.2.2.2.1 ?_
    refine R_isub e_X8_doCross_8.2.2.2.2.1 ?_
    refine R_istore (ls2 := [(12, vI ((((σ 59 l1) - (σ (c + 6 + l1) 1)) * ((σ (c + 6 + l2) 2) - (σ (c + 6 + l1) 2))) - (((σ 60 l1) - (σ (c + 6 + l1) 2)) * ((σ (c + 6 + l2) 1) - (σ (c + 6 + l1) 1))))), (11, vI ((((σ 59 l1) - (σ (c + 6 + l1) 1)) * ((σ 60 l2) - (σ (c + 6 + l2) 2))) - (((σ 60 l1) - (σ (c + 6 + l1) 2)) * ((σ 59 l2) - (σ (c + 6 + l2) 1))))), (10, vI ((σ (c + 6 + l2) 2) - (σ (c + 6 + l1) 2))), (9, vI ((σ (c + 6 + l2) 1) - (σ (c + 6 + l1) 1))), (8, vI ((σ 60 l2) - (σ (c + 6 + l2) 2))), (7, vI ((σ 59 l2) - (σ (c + 6 + l2) 1))), (6, vI ((σ 60 l1) - (σ (c + 6 + l1) 2))), (5, vI ((σ 59 l1) - (σ (c + 6 + l1) 1))), (4, vA G (c + 6 + l2)), (3, vA G (c + 6 + l1)), (0, vA G 58), (1, vI l1), (2, vI l2)]) e_X8_doCross_8.2.2.2.2.2.1 (by decide) rfl ?_
    refine R_iload e_X8_doCross_8.2.2.2.2.2.2.1 5 rfl ?_
    refine R_iload e_X8_doCross_8.2.2.2.2.2.2.2.1 2 rfl ?_
    refine R_imul e_X8_doCross_8.2.2.2.2.2.2.2.2.1 ?_
    refine R_iload e_X8_doCross_8.2.2.2.2.2.2.2.2.2 4 rfl ?_
    refine R_iload e_X8_doCross_9.1 3 rfl ?_
    refine R_imul e_X8_doCross_9.2.1 ?_
    refine R_isub e_X8_doCross_9.2.2.1 ?_
    refine R_istore (ls2 := [(13, vI ((((σ 59 l2) - (σ (c + 6 + l2) 1)) * ((σ (c + 6 + l2) 2) - (σ (c + 6 + l1) 2))) - (((σ 60 l2) - (σ (c + 6 + l2) 2)) * ((σ (c + 6 + l2) 1) - (σ (c + 6 + l1) 1))))), (12, vI ((((σ 59 l1) - (σ (c + 6 + l1) 1)) * ((σ (c + 6 + l2) 2) - (σ (c + 6 + l1) 2))) - (((σ 60 l1) - (σ (c + 6 + l1) 2)) * ((σ (c + 6 + l2) 1) - (σ (c + 6 + l1) 1))))), (11, vI ((((σ 59 l1) - (σ (c + 6 + l1) 1)) * ((σ 60 l2) - (σ (c + 6 + l2) 2))) - (((σ 60 l1) - (σ (c + 6 + l1) 2)) * ((σ 59 l2) - (σ (c + 6 + l2) 1))))), (10, vI ((σ (c + 6 + l2) 2) - (σ (c + 6 + l1) 2))), (9, vI ((σ (c + 6 + l2) 1) - (σ (c + 6 + l1) 1))), (8, vI ((σ 60 l2) - (σ (c + 6 + l2) 2))), (7, vI ((σ 59 l2) - (σ (c + 6 + l2) 1))), (6, vI ((σ 60 l1) - (σ (c + 6 + l1) 2))), (5, vI ((σ 59 l1) - (σ (c + 6 + l1) 1))), (4, vA G (c + 6 + l2)), (3, vA G (c + 6 + l1)), (0, vA G 58), (1, vI l1), (2, vI l2)]) e_X8_doCross_9.2.2.2.1 (by decide) rfl ?_
    refine R_iload e_X8_doCross_9.2.2.2.2.1 1 rfl ?_
    refine R_iload e_X8_doCross_9.2.2.2.2.2.1 1 rfl ?_
    refine R_iload e_X8_doCross_9.2.2.2.2.2.2.1 2 rfl ?_
    refine R_iadd e_X8_doCross_9.2.2.2.2.2.2.2.1 ?_
    refine R_imul e_X8_doCross_9.2.2.2.2.2.2.2.2.1 ?_
    obtain ⟨q10, h⟩ := h
    refine R_if_ge 184 e_X8_doCross_9.2.2.2.2.2.2.2.2.2 (by decide) q10  (fun q => ?_) (fun q => ?_)
    · replace h := h.1 q
      refine R_iconst e_X8_doCross_10.2.2.2.2.2.2.2.2.1 ?_
      exact R_zreturn e_X8_doCross_10.2.2.2.2.2.2.2.2.2 rfl (Or.inl rfl) h
    · replace h := h.2 q
      refine R_iload e_X8_doCross_10.1 0 rfl ?_
      refine R_iload e_X8_doCross_10.2.1 0 rfl ?_
      refine R_iload e_X8_doCross_10.2.2.1 2 rfl ?_
      refine R_iadd e_X8_doCross_10.2.2.2.1 ?_
      refine R_imul e_X8_doCross_10.2.2.2.2.1 ?_
      obtain ⟨q11, h⟩ := h
      refine R_if_ge 184 e_X8_doCross_10.2.2.2.2.2.1 (by decide) q11  (fun q => ?_) (fun q => ?_)
      · replace h := h.1 q
        refine R_iconst e_X8_doCross_10.2.2.2.2.2.2.2.2.1 ?_
        exact R_zreturn e_X8_doCross_10.2.2.2.2.2.2.2.2.2 rfl (Or.inl rfl) h
      · replace h := h.2 q
        refine R_iconst e_X8_doCross_10.2.2.2.2.2.2.1 ?_
        refine R_goto 185 e_X8_doCross_10.2.2.2.2.2.2.2.1 (by decide) ?_
        exact R_zreturn e_X8_doCross_10.2.2.2.2.2.2.2.2.2 rfl (Or.inr rfl) h
  · replace h := h.2 q
    refine R_iconst e_X8_doCross_1.2.2.1 ?_
    exact R_zreturn e_X8_doCross_1.2.2.2.1 rfl (Or.inl rfl) h
/-! KiteLand$Life.run(LKiteLand$Seasons;LKiteLand$County;LKiteLand$Sky;I)V -/
theorem e_X4_run_0 : decode cX4_run 0 = .ok (.aload_n 0, 1) ∧ decode cX4_run 1 = .ok (.iconst 1, 1) ∧ decode cX4_run 2 = .ok (.putfield 9, 3) ∧ decode cX4_run 5 = .ok (.aload_n 0, 1) ∧ decode cX4_run 6 = .ok (.iconst 0, 1) ∧ decode cX4_run 7 = .ok (.putfield 15, 3) ∧ decode cX4_run 10 = .ok (.aload_n 0, 1) ∧ decode cX4_run 11 = .ok (.iconst 0, 1) ∧ decode cX4_run 12 = .ok (.putfield 19, 3) ∧ decode cX4_run 15 = .ok (.aload_n 0, 1) := by decide +kernel
theorem e_X4_run_1 : decode cX4_run 16 = .ok (.iconst 0, 1) ∧ decode cX4_run 17 = .ok (.putfield 22, 3) ∧ decode cX4_run 20 = .ok (.aload_n 0, 1) ∧ decode cX4_run 21 = .ok (.iconst 0, 1) ∧ decode cX4_run 22 = .ok (.putfield 25, 3) ∧ decode cX4_run 25 = .ok (.aload_n 0, 1) ∧ decode cX4_run 26 = .ok (.iconst 0, 1) ∧ decode cX4_run 27 = .ok (.putfield 28, 3) ∧ decode cX4_run 30 = .ok (.aload_n 0, 1) ∧ decode cX4_run 31 = .ok (.iconst 0, 1) := by decide +kernel
theorem e_X4_run_2 : decode cX4_run 32 = .ok (.putfield 31, 3) ∧ decode cX4_run 35 = .ok (.aload_n 0, 1) ∧ decode cX4_run 36 = .ok (.iload 4, 2) ∧ decode cX4_run 38 = .ok (.putfield 34, 3) ∧ decode cX4_run 41 = .ok (.iconst 0, 1) ∧ decode cX4_run 42 = .ok (.istore 5, 2) ∧ decode cX4_run 44 = .ok (.iconst 0, 1) ∧ decode cX4_run 45 = .ok (.istore 6, 2) ∧ decode cX4_run 47 = .ok (.iload 6, 2) ∧ decode cX4_run 49 = .ok (.ldc 43, 2) := by decide +kernel
theorem e_X4_run_3 : decode cX4_run 51 = .ok (.if_icmp .ge 79, 3) ∧ decode cX4_run 54 = .ok (.iload 5, 2) ∧ decode cX4_run 56 = .ok (.aload_n 1, 1) ∧ decode cX4_run 57 = .ok (.getfield 44, 3) ∧ decode cX4_run 60 = .ok (.if_icmp .ge 70, 3) ∧ decode cX4_run 63 = .ok (.aload_n 1, 1) ∧ decode cX4_run 64 = .ok (.getfield 47, 3) ∧ decode cX4_run 67 = .ok (.iload 5, 2) ∧ decode cX4_run 69 = .ok (.iaload, 1) ∧ decode cX4_run 70 = .ok (.bipush 9, 2) := by decide +kernel
theorem e_X4_run_4 : decode cX4_run 72 = .ok (.if_icmp .ne 15, 3) ∧ decode cX4_run 75 = .ok (.aload_n 0, 1) ∧ decode cX4_run 76 = .ok (.aload_n 1, 1) ∧ decode cX4_run 77 = .ok (.iload 5, 2) ∧ decode cX4_run 79 = .ok (.invokevirtual 50, 3) ∧ decode cX4_run 82 = .ok (.istore 5, 2) ∧ decode cX4_run 84 = .ok (.goto 40, 3) ∧ decode cX4_run 87 = .ok (.aload_n 0, 1) ∧ decode cX4_run 88 = .ok (.getfield 15, 3) ∧ decode cX4_run 91 = .ok (.sipush 300, 3) := by decide +kernel
theorem e_X4_run_5 : decode cX4_run 94 = .ok (.if_icmp .lt 9, 3) ∧ decode cX4_run 97 = .ok (.aload_n 0, 1) ∧ decode cX4_run 98 = .ok (.iconst 1, 1) ∧ decode cX4_run 99 = .ok (.putfield 31, 3) ∧ decode cX4_run 102 = .ok (.return_, 1) ∧ decode cX4_run 103 = .ok (.aload_n 0, 1) ∧ decode cX4_run 104 = .ok (.dup, 1) ∧ decode cX4_run 105 = .ok (.getfield 15, 3) ∧ decode cX4_run 108 = .ok (.iconst 1, 1) ∧ decode cX4_run 109 = .ok (.iadd, 1) := by decide +kernel
theorem e_X4_run_6 : decode cX4_run 110 = .ok (.putfield 15, 3) ∧ decode cX4_run 113 = .ok (.aload_n 0, 1) ∧ decode cX4_run 114 = .ok (.aload_n 1, 1) ∧ decode cX4_run 115 = .ok (.iload 5, 2) ∧ decode cX4_run 117 = .ok (.aload_n 2, 1) ∧ decode cX4_run 118 = .ok (.aload_n 3, 1) ∧ decode cX4_run 119 = .ok (.invokevirtual 54, 3) ∧ decode cX4_run 122 = .ok (.istore 5, 2) ∧ decode cX4_run 124 = .ok (.iinc 6 1, 3) ∧ decode cX4_run 127 = .ok (.goto (-80), 3) := by decide +kernel
theorem e_X4_run_7 : decode cX4_run 130 = .ok (.return_, 1) := by decide +kernel
abbrev E_X4_run_47 (G : Kg) (x s c l5 l6 : Int) (σ : Kmem) (Q : Int → Kmem → Prop) : Prop := Ex G WX M_X4_run 6 0 0 47 [(0, vA G x), (1, vA G s), (2, vA G c), (3, vA G 58), (5, vI l5), (6, vI l6)] [] σ Q
theorem S_X4_run {G : Kg} {σ : Kmem} {Q : Int → Kmem → Prop} {x s c l4 : Int} (hx : isLf x) (hs : isS s) (hc : isC c) (h : E_X4_run_47 G x s c 0 0 (kup (kup (kup (kup (kup (kup (kup (kup σ x 0 1) x 1 0) x 2 0) x 3 0) x 4 0) x 5 0) x 6 0) x 7 l4) Q) : Run G WX M_X4_run 6 0 0 [vA G x, vA G s, vA G c, vA G 58, vI l4] σ Q := by
  refine Run.of (by decide +kernel) (by show (5 : Nat) ≤ 7; decide) ?_
  show Ex G WX M_X4_run 6 0 0 0 [(0, vA G x), (1, vA G s), (2, vA G c), (3, vA G 58), (4, vI l4)] [] σ Q
  refine R_aload_n e_X4_run_0.1 0 rfl ?_
  refine R_iconst e_X4_run_0.2.1 ?_
  refine R_putZ 4 0 0 WX_ok e_X4_run_0.2.2.1 f_X4_9 (kL_self hx) rfl rfl rfl (Or.inr rfl) ?_
  refine R_aload_n e_X4_run_0.2.2.2.1 0 rfl ?_
  refine R_iconst e_X4_run_0.2.2.2.2.1 ?_
  refine R_putI 4 1 1 WX_ok e_X4_run_0.2.2.2.2.2.1 f_X4_15 (kL_self hx) rfl rfl rfl ?_
  refine R_aload_n e_X4_run_0.2.2.2.2.2.2.1 0 rfl ?_
  refine R_iconst e_X4_run_0.2.2.2.2.2.2.2.1 ?_
  refine R_putI 4 2 2 WX_ok e_X4_run_0.2.2.2.2.2.2.2.2.1 f_X4_19 (kL_self hx) rfl rfl rfl ?_
  refine R_aload_n e_X4_run_0.2.2.2.2.2.2.2.2.2 0 rfl ?_
  refine R_iconst e_X4_run_1.1 ?_
  refine R_putI 4 3 3 WX_ok e_X4_run_1.2.1 f_X4_22 (kL_self hx) rfl rfl rfl ?_
  refine R_aload_n e_X4_run_1.2.2.1 0 rfl ?_
  refine R_iconst e_X4_run_1.2.2.2.1 ?_
  refine R_putI 4 4 4 WX_ok e_X4_run_1.2.2.2.2.1 f_X4_25 (kL_self hx) rfl rfl rfl ?_
  refine R_aload_n e_X4_run_1.2.2.2.2.2.1 0 rfl ?_
  refine R_iconst e_X4_run_1.2.2.2.2.2.2.1 ?_
  refine R_putI 4 5 5 WX_ok e_X4_run_1.2.2.2.2.2.2.2.1 f_X4_28 (kL_self hx) rfl rfl rfl ?_
  refine R_aload_n e_X4_run_1.2.2.2.2.2.2.2.2.1 0 rfl ?_
  refine R_iconst e_X4_run_1.2.2.2.2.2.2.2.2.2 ?_
  refine R_putZ 4 6 6 WX_ok e_X4_run_2.1 f_X4_31 (kL_self hx) rfl rfl rfl (Or.inl rfl) ?_
  refine R_aload_n e_X4_run_2.2.1 0 rfl ?_
  refine R_iload e_X4_run_2.2.2.1 4 rfl ?_
  refine R_putI 4 7 7 WX_ok e_X4_run_2.2.2.2.1 f_X4_34 (kL_self hx) rfl rfl rfl ?_
  refine R_iconst e_X4_run_2.2.2.2.2.1 ?_
  refine R_istore (ls2 := [(5, vI 0), (0, vA G x), (1, vA G s), (2, vA G c), (3, vA G 58), (4, vI l4)]) e_X4_run_2.2.2.2.2.2.1 (by decide) rfl ?_
  refine R_iconst e_X4_run_2.2.2.2.2.2.2.1 ?_
  refine R_istore (ls2 := [(6, vI 0), (5, vI 0), (0, vA G x), (1, vA G s), (2, vA G c), (3, vA G 58), (4, vI l4)]) e_X4_run_2.2.2.2.2.2.2.2.1 (by decide) rfl ?_
  refine R_ls (ls2 := [(0, vA G x), (1, vA G s), (2, vA G c), (3, vA G 58), (5, vI 0), (6, vI 0)]) [2, 3, 4, 5, 1, 0] rfl ?_
  exact h
theorem S_X4_run_47 {G : Kg} {σ : Kmem} {Q : Int → Kmem → Prop} {x s c l4 l5 l6 : Int} (hx : isLf x) (hs : isS s) (hc : isC c) (h : (rI l6) ∧ ((1000000 ≤ l6 → Q 0 σ) ∧ (l6 < 1000000 → (rI l5) ∧ (rI (σ s 2)) ∧ ((σ s 2 ≤ l5 → Q 0 σ) ∧ (l5 < σ s 2 → (0 ≤ l5 ∧ l5 < 60) ∧ (rI (σ (s + 1) l5)) ∧ ((σ (s + 1) l5 ≠ 9 → (rI (σ x 1)) ∧ ((σ x 1 < 300 → Run G WX M_X4_behindStep 5 0 0 [vA G x, vA G s, vI l5, vA G c, vA G 58] (kup σ x 1 ((σ x 1) + 1)) (fun r7 s8 => E_X4_run_47 G x s c r7 (l6 + 1) s8 Q)) ∧ (300 ≤ σ x 1 → Q 0 (kup σ x 6 1)))) ∧ (σ (s + 1) l5 = 9 → Run G WX M_X4_behindEnd 0 0 0 [vA G x, vA G s, vI l5] σ (fun r9 s10 => E_X4_run_47 G x s c r9 (l6 + 1) s10 Q)))))))) : E_X4_run_47 G x s c l5 l6 σ Q := by
  refine R_iload e_X4_run_2.2.2.2.2.2.2.2.2.1 5 rfl ?_
  refine R_ldc (1000000) k_X4_43 e_X4_run_2.2.2.2.2.2.2.2.2.2 ?_
  obtain ⟨q1, h⟩ := h
  refine R_icmp_ge 130 e_X4_run_3.1 (by decide) q1 (by decide) (fun q => ?_) (fun q => ?_)
  · replace h := h.1 q
    exact R_return e_X4_run_7 rfl h
  · replace h := h.2 q
    refine R_iload e_X4_run_3.2.1 4 rfl ?_
    refine R_aload_n e_X4_run_3.2.2.1 1 rfl ?_
    refine R_getI 7 2 2 e_X4_run_3.2.2.2.1 f_X4_44 (kS_self hs) (fun _ _ => rfl) rfl ?_
    obtain ⟨q2, h⟩ := h
    obtain ⟨q3, h⟩ := h
    refine R_icmp_ge 130 e_X4_run_3.2.2.2.2.1 (by decide) q2 q3 (fun q => ?_) (fun q => ?_)
    · replace h := h.1 q
      exact R_return e_X4_run_7 rfl h
    · replace h := h.2 q
      refine R_aload_n e_X4_run_3.2.2.2.2.2.1 1 rfl ?_
      refine R_getA 7 3 (s + 1) e_X4_run_3.2.2.2.2.2.2.1 f_X4_47 (kS_self hs) (fun _ _ => rfl) (kS_r3 hs) (kS_n1 hs) ?_
      refine R_iload e_X4_run_3.2.2.2.2.2.2.2.1 4 rfl ?_
      obtain ⟨q4, h⟩ := h
      refine R_iald 60 e_X4_run_3.2.2.2.2.2.2.2.2.1 (kS_kinds hs) q4 ?_
      refine R_bipush e_X4_run_3.2.2.2.2.2.2.2.2.2 (by decide) ?_
      obtain ⟨q5, h⟩ := h
      refine R_icmp_ne 87 e_X4_run_4.1 (by decide) q5 (by decide) (fun q => ?_) (fun q => ?_)
      · replace h := h.1 q
        refine R_aload_n e_X4_run_4.2.2.2.2.2.2.2.1 0 rfl ?_
        refine R_getI 4 1 1 e_X4_run_4.2.2.2.2.2.2.2.2.1 f_X4_15 (kL_self hx) (fun _ _ => rfl) rfl ?_
        refine R_sipush e_X4_run_4.2.2.2.2.2.2.2.2.2 (by decide) ?_
        obtain ⟨q6, h⟩ := h
        refine R_icmp_lt 103 e_X4_run_5.1 (by decide) q6 (by decide) (fun q => ?_) (fun q => ?_)
        · replace h := h.1 q
          refine R_aload_n e_X4_run_5.2.2.2.2.2.1 0 rfl ?_
          refine R_dup e_X4_run_5.2.2.2.2.2.2.1 rfl ?_
          refine R_getI 4 1 1 e_X4_run_5.2.2.2.2.2.2.2.1 f_X4_15 (kL_self hx) (fun _ _ => rfl) rfl ?_
          refine R_iconst e_X4_run_5.2.2.2.2.2.2.2.2.1 ?_
          refine R_iadd e_X4_run_5.2.2.2.2.2.2.2.2.2 ?_
          refine R_putI 4 1 1 WX_ok e_X4_run_6.1 f_X4_15 (kL_self hx) rfl rfl rfl ?_
          refine R_aload_n e_X4_run_6.2.1 0 rfl ?_
          refine R_aload_n e_X4_run_6.2.2.1 1 rfl ?_
          refine R_iload e_X4_run_6.2.2.2.1 4 rfl ?_
          refine R_aload_n e_X4_run_6.2.2.2.2.1 2 rfl ?_
          refine R_aload_n e_X4_run_6.2.2.2.2.2.1 3 rfl ?_
          refine R_callV (mc := 0) (ms := 0) (mc' := 0) (ms' := 0) (M' := M_X4_behindStep) (d' := 5) (as := [vA G s, vI l5, vA G c, vA G 58]) (st := []) 4 4 e_X4_run_6.2.2.2.2.2.2.1 (kCVof m_X4_behindStep l_X4_54) rfl (by decide) (kL_self hx) (by decide) (by decide) rfl rfl (by show (0 : Nat) ≤ 8; decide) ?_
          refine Run.mono h (fun r7 s8 h => ?_)
          refine R_eqs (st2 := [vI r7]) rfl rfl ?_
          refine R_istore (ls2 := [(5, vI r7), (0, vA G x), (1, vA G s), (2, vA G c), (3, vA G 58), (6, vI l6)]) e_X4_run_6.2.2.2.2.2.2.2.1 (by decide) rfl ?_
          refine R_iinc (ls2 := [(6, vI (l6 + 1)), (5, vI r7), (0, vA G x), (1, vA G s), (2, vA G c), (3, vA G 58)]) e_X4_run_6.2.2.2.2.2.2.2.2.1 5 rfl (by decide) rfl ?_
          refine R_goto 47 e_X4_run_6.2.2.2.2.2.2.2.2.2 (by decide) ?_
          refine R_ls (ls2 := [(0, vA G x), (1, vA G s), (2, vA G c), (3, vA G 58), (5, vI r7), (6, vI (l6 + 1))]) [2, 3, 4, 5, 1, 0] rfl ?_
          exact h
        · replace h := h.2 q
          refine R_aload_n e_X4_run_5.2.1 0 rfl ?_
          refine R_iconst e_X4_run_5.2.2.1 ?_
          refine R_putZ 4 6 6 WX_ok e_X4_run_5.2.2.2.1 f_X4_31 (kL_self hx) rfl rfl rfl (Or.inr rfl) ?_
          exact R_return e_X4_run_5.2.2.2.2.1 rfl h
      · replace h := h.2 q
        refine R_aload_n e_X4_run_4.2.1 0 rfl ?_
        refine R_aload_n e_X4_run_4.2.2.1 1 rfl ?_
        refine R_iload e_X4_run_4.2.2.2.1 4 rfl ?_
        refine R_callV (mc := 0) (ms := 0) (mc' := 0) (ms' := 0) (M' := M_X4_behindEnd) (d' := 0) (as := [vA G s, vI l5]) (st := []) 4 2 e_X4_run_4.2.2.2.2.1 (kCVof m_X4_behindEnd l_X4_50) rfl (by decide) (kL_self hx) (by decide) (by decide) rfl rfl (by show (0 : Nat) ≤ 8; decide) ?_
        refine Run.mono h (fun r9 s10 h => ?_)
        refine R_eqs (st2 := [vI r9]) rfl rfl ?_
        refine R_istore (ls2 := [(5, vI r9), (0, vA G x), (1, vA G s), (2, vA G c), (3, vA G 58), (6, vI l6)]) e_X4_run_4.2.2.2.2.2.1 (by decide) rfl ?_
        refine R_goto 124 e_X4_run_4.2.2.2.2.2.2.1 (by decide) ?_
        refine R_iinc (ls2 := [(6, vI (l6 + 1)), (5, vI r9), (0, vA G x), (1, vA G s), (2, vA G c), (3, vA G 58)]) e_X4_run_6.2.2.2.2.2.2.2.2.1 5 rfl (by decide) rfl ?_
        refine R_goto 47 e_X4_run_6.2.2.2.2.2.2.2.2.2 (by decide) ?_
        refine R_ls (ls2 := [(0, vA G x), (1, vA G s), (2, vA G c), (3, vA G 58), (5, vI r9), (6, vI (l6 + 1))]) [2, 3, 4, 5, 1, 0] rfl ?_
        exact h
/-! KiteLand$Life.behindEnd(LKiteLand$Seasons;I)I -/
theorem e_X4_behindEnd_0 : decode cX4_behindEnd 0 = .ok (.aload_n 1, 1) ∧ decode cX4_behindEnd 1 = .ok (.getfield 58, 3) ∧ decode cX4_behindEnd 4 = .ok (.iload_n 2, 1) ∧ decode cX4_behindEnd 5 = .ok (.iaload, 1) ∧ decode cX4_behindEnd 6 = .ok (.istore_n 3, 1) ∧ decode cX4_behindEnd 7 = .ok (.aload_n 1, 1) ∧ decode cX4_behindEnd 8 = .ok (.getfield 47, 3) ∧ decode cX4_behindEnd 11 = .ok (.iload_n 3, 1) ∧ decode cX4_behindEnd 12 = .ok (.iaload, 1) ∧ decode cX4_behindEnd 13 = .ok (.bipush 7, 2) := by decide +kernel
theorem e_X4_behindEnd_1 : decode cX4_behindEnd 15 = .ok (.if_icmp .ne 26, 3) ∧ decode cX4_behindEnd 18 = .ok (.aload_n 0, 1) ∧ decode cX4_behindEnd 19 = .ok (.getfield 39, 3) ∧ decode cX4_behindEnd 22 = .ok (.iload_n 3, 1) ∧ decode cX4_behindEnd 23 = .ok (.dup2, 1) ∧ decode cX4_behindEnd 24 = .ok (.iaload, 1) ∧ decode cX4_behindEnd 25 = .ok (.iconst 1, 1) ∧ decode cX4_behindEnd 26 = .ok (.isub, 1) ∧ decode cX4_behindEnd 27 = .ok (.iastore, 1) ∧ decode cX4_behindEnd 28 = .ok (.aload_n 0, 1) := by decide +kernel
theorem e_X4_behindEnd_2 : decode cX4_behindEnd 29 = .ok (.getfield 39, 3) ∧ decode cX4_behindEnd 32 = .ok (.iload_n 3, 1) ∧ decode cX4_behindEnd 33 = .ok (.iaload, 1) ∧ decode cX4_behindEnd 34 = .ok (.ifCond .le 7, 3) ∧ decode cX4_behindEnd 37 = .ok (.iload_n 3, 1) ∧ decode cX4_behindEnd 38 = .ok (.iconst 1, 1) ∧ decode cX4_behindEnd 39 = .ok (.iadd, 1) ∧ decode cX4_behindEnd 40 = .ok (.ireturn, 1) ∧ decode cX4_behindEnd 41 = .ok (.iload_n 2, 1) ∧ decode cX4_behindEnd 42 = .ok (.iconst 1, 1) := by decide +kernel
theorem e_X4_behindEnd_3 : decode cX4_behindEnd 43 = .ok (.iadd, 1) ∧ decode cX4_behindEnd 44 = .ok (.ireturn, 1) := by decide +kernel
theorem S_X4_behindEnd {G : Kg} {σ : Kmem} {Q : Int → Kmem → Prop} {x s l2 : Int} (hx : isLf x) (hs : isS s) (h : (0 ≤ l2 ∧ l2 < 60) ∧ (0 ≤ σ (s + 5) l2 ∧ σ (s + 5) l2 < 60) ∧ (rI (σ (s + 1) (σ (s + 5) l2))) ∧ ((σ (s + 1) (σ (s + 5) l2) ≠ 7 → Q (l2 + 1) σ) ∧ (σ (s + 1) (σ (s + 5) l2) = 7 → (0 ≤ σ (s + 5) l2 ∧ σ (s + 5) l2 < 60) ∧ (0 ≤ σ (s + 5) l2 ∧ σ (s + 5) l2 < 60) ∧ (0 ≤ σ (s + 5) l2 ∧ σ (s + 5) l2 < 60) ∧ (rI ((kup σ (x + 1) (σ (s + 5) l2) ((σ (x + 1) (σ (s + 5) l2)) - 1)) (x + 1) (σ (s + 5) l2))) ∧ (((kup σ (x + 1) (σ (s + 5) l2) ((σ (x + 1) (σ (s + 5) l2)) - 1)) (x + 1) (σ (s + 5) l2) ≤ 0 → Q (l2 + 1) (kup σ (x + 1) (σ (s + 5) l2) ((σ (x + 1) (σ (s + 5) l2)) - 1))) ∧ (0 < (kup σ (x + 1) (σ (s + 5) l2) ((σ (x + 1) (σ (s + 5) l2)) - 1)) (x + 1) (σ (s + 5) l2) → Q ((σ (s + 5) l2) + 1) (kup σ (x + 1) (σ (s + 5) l2) ((σ (x + 1) (σ (s + 5) l2)) - 1))))))) : Run G WX M_X4_behindEnd 0 0 0 [vA G x, vA G s, vI l2] σ Q := by
  refine Run.of (by decide +kernel) (by show (3 : Nat) ≤ 4; decide) ?_
  show Ex G WX M_X4_behindEnd 0 0 0 0 [(0, vA G x), (1, vA G s), (2, vI l2)] [] σ Q
  refine R_aload_n e_X4_behindEnd_0.1 1 rfl ?_
  refine R_getA 7 7 (s + 5) e_X4_behindEnd_0.2.1 f_X4_58 (kS_self hs) (fun _ _ => rfl) (kS_r7 hs) (kS_n5 hs) ?_
  refine R_iload_n e_X4_behindEnd_0.2.2.1 2 rfl ?_
  obtain ⟨q1, h⟩ := h
  refine R_iald 60 e_X4_behindEnd_0.2.2.2.1 (kS_parts hs) q1 ?_
  refine R_istore_n (ls2 := [(3, vI (σ (s + 5) l2)), (0, vA G x), (1, vA G s), (2, vI l2)]) e_X4_behindEnd_0.2.2.2.2.1 (by decide) rfl ?_
  refine R_aload_n e_X4_behindEnd_0.2.2.2.2.2.1 2 rfl ?_
  refine R_getA 7 3 (s + 1) e_X4_behindEnd_0.2.2.2.2.2.2.1 f_X4_47 (kS_self hs) (fun _ _ => rfl) (kS_r3 hs) (kS_n1 hs) ?_
  refine R_iload_n e_X4_behindEnd_0.2.2.2.2.2.2.2.1 0 rfl ?_
  obtain ⟨q2, h⟩ := h
  refine R_iald 60 e_X4_behindEnd_0.2.2.2.2.2.2.2.2.1 (kS_kinds hs) q2 ?_
  refine R_bipush e_X4_behindEnd_0.2.2.2.2.2.2.2.2.2 (by decide) ?_
  obtain ⟨q3, h⟩ := h
  refine R_icmp_ne 41 e_X4_behindEnd_1.1 (by decide) q3 (by decide) (fun q => ?_) (fun q => ?_)
  · replace h := h.1 q
    refine R_iload_n e_X4_behindEnd_2.2.2.2.2.2.2.2.2.1 3 rfl ?_
    refine R_iconst e_X4_behindEnd_2.2.2.2.2.2.2.2.2.2 ?_
    refine R_iadd e_X4_behindEnd_3.1 ?_
    exact R_ireturn e_X4_behindEnd_3.2 rfl h
  · replace h := h.2 q
    refine R_aload_n e_X4_behindEnd_1.2.1 1 rfl ?_
    refine R_getA 4 8 (x + 1) e_X4_behindEnd_1.2.2.1 f_X4_39 (kL_self hx) (fun _ _ => rfl) (kL_r8 hx) (kL_n1 hx) ?_
    refine R_iload_n e_X4_behindEnd_1.2.2.2.1 0 rfl ?_
    refine R_dup2 e_X4_behindEnd_1.2.2.2.2.1 rfl rfl ?_
    obtain ⟨q4, h⟩ := h
    refine R_iald 60 e_X4_behindEnd_1.2.2.2.2.2.1 (kL_rounds hx) q4 ?_
    refine R_iconst e_X4_behindEnd_1.2.2.2.2.2.2.1 ?_
    refine R_isub e_X4_behindEnd_1.2.2.2.2.2.2.2.1 ?_
    obtain ⟨q5, h⟩ := h
    refine R_iast 60 WX_ok e_X4_behindEnd_1.2.2.2.2.2.2.2.2.1 (kL_rounds hx) q5 ?_
    refine R_aload_n e_X4_behindEnd_1.2.2.2.2.2.2.2.2.2 1 rfl ?_
    refine R_getA 4 8 (x + 1) e_X4_behindEnd_2.1 f_X4_39 (kL_self hx) (fun _ _ => rfl) (kL_r8 hx) (kL_n1 hx) ?_
    refine R_iload_n e_X4_behindEnd_2.2.1 0 rfl ?_
    obtain ⟨q6, h⟩ := h
    refine R_iald 60 e_X4_behindEnd_2.2.2.1 (kL_rounds hx) q6 ?_
    obtain ⟨q7, h⟩ := h
    refine R_if_le 41 e_X4_behindEnd_2.2.2.2.1 (by decide) q7  (fun q => ?_) (fun q => ?_)
    · replace h := h.1 q
      refine R_iload_n e_X4_behindEnd_2.2.2.2.2.2.2.2.2.1 3 rfl ?_
      refine R_iconst e_X4_behindEnd_2.2.2.2.2.2.2.2.2.2 ?_
      refine R_iadd e_X4_behindEnd_3.1 ?_
      exact R_ireturn e_X4_behindEnd_3.2 rfl h
    · replace h := h.2 q
      refine R_iload_n e_X4_behindEnd_2.2.2.2.2.1 0 rfl ?_
      refine R_iconst e_X4_behindEnd_2.2.2.2.2.2.1 ?_
      refine R_iadd e_X4_behindEnd_2.2.2.2.2.2.2.1 ?_
      exact R_ireturn e_X4_behindEnd_2.2.2.2.2.2.2.2.1 rfl h
/-! KiteLand$Life.behindStep(LKiteLand$Seasons;ILKiteLand$County;LKiteLand$Sky;)I -/
theorem e_X4_behindStep_0 : decode cX4_behindStep 0 = .ok (.aload_n 1, 1) ∧ decode cX4_behindStep 1 = .ok (.getfield 61, 3) ∧ decode cX4_behindStep 4 = .ok (.iload_n 2, 1) ∧ decode cX4_behindStep 5 = .ok (.iaload, 1) ∧ decode cX4_behindStep 6 = .ok (.istore 5, 2) ∧ decode cX4_behindStep 8 = .ok (.aload_n 1, 1) ∧ decode cX4_behindStep 9 = .ok (.getfield 64, 3) ∧ decode cX4_behindStep 12 = .ok (.iload_n 2, 1) ∧ decode cX4_behindStep 13 = .ok (.iaload, 1) ∧ decode cX4_behindStep 14 = .ok (.istore 6, 2) := by decide +kernel
theorem e_X4_behindStep_1 : decode cX4_behindStep 16 = .ok (.aload_n 1, 1) ∧ decode cX4_behindStep 17 = .ok (.getfield 47, 3) ∧ decode cX4_behindStep 20 = .ok (.iload_n 2, 1) ∧ decode cX4_behindStep 21 = .ok (.iaload, 1) ∧ decode cX4_behindStep 22 = .ok (.tableswitch 199 1 7 #[42, 102, 114, 129, 144, 161, 188], 42) ∧ decode cX4_behindStep 64 = .ok (.aload_n 3, 1) ∧ decode cX4_behindStep 65 = .ok (.getfield 67, 3) ∧ decode cX4_behindStep 68 = .ok (.iload 6, 2) ∧ decode cX4_behindStep 70 = .ok (.iadd, 1) ∧ decode cX4_behindStep 71 = .ok (.sipush 9999, 3) := by decide +kernel
theorem e_X4_behindStep_2 : decode cX4_behindStep 74 = .ok (.if_icmp .le 16, 3) ∧ decode cX4_behindStep 77 = .ok (.aload_n 0, 1) ∧ decode cX4_behindStep 78 = .ok (.dup, 1) ∧ decode cX4_behindStep 79 = .ok (.getfield 19, 3) ∧ decode cX4_behindStep 82 = .ok (.iconst 1, 1) ∧ decode cX4_behindStep 83 = .ok (.iadd, 1) ∧ decode cX4_behindStep 84 = .ok (.putfield 19, 3) ∧ decode cX4_behindStep 87 = .ok (.goto 139, 3) ∧ decode cX4_behindStep 90 = .ok (.aload_n 0, 1) ∧ decode cX4_behindStep 91 = .ok (.dup, 1) := by decide +kernel
theorem e_X4_behindStep_3 : decode cX4_behindStep 92 = .ok (.getfield 22, 3) ∧ decode cX4_behindStep 95 = .ok (.iload 6, 2) ∧ decode cX4_behindStep 97 = .ok (.iadd, 1) ∧ decode cX4_behindStep 98 = .ok (.putfield 22, 3) ∧ decode cX4_behindStep 101 = .ok (.aload_n 0, 1) ∧ decode cX4_behindStep 102 = .ok (.dup, 1) ∧ decode cX4_behindStep 103 = .ok (.getfield 28, 3) ∧ decode cX4_behindStep 106 = .ok (.aload_n 3, 1) ∧ decode cX4_behindStep 107 = .ok (.aload 4, 2) ∧ decode cX4_behindStep 109 = .ok (.iload 6, 2) := by decide +kernel
theorem e_X4_behindStep_4 : decode cX4_behindStep 111 = .ok (.invokevirtual 72, 3) ∧ decode cX4_behindStep 114 = .ok (.invokestatic 76, 3) ∧ decode cX4_behindStep 117 = .ok (.iadd, 1) ∧ decode cX4_behindStep 118 = .ok (.putfield 28, 3) ∧ decode cX4_behindStep 121 = .ok (.goto 105, 3) ∧ decode cX4_behindStep 124 = .ok (.aload_n 0, 1) ∧ decode cX4_behindStep 125 = .ok (.aload_n 3, 1) ∧ decode cX4_behindStep 126 = .ok (.iload 5, 2) ∧ decode cX4_behindStep 128 = .ok (.iload 6, 2) ∧ decode cX4_behindStep 130 = .ok (.invokevirtual 82, 3) := by decide +kernel
theorem e_X4_behindStep_5 : decode cX4_behindStep 133 = .ok (.goto 93, 3) ∧ decode cX4_behindStep 136 = .ok (.aload_n 0, 1) ∧ decode cX4_behindStep 137 = .ok (.aload_n 3, 1) ∧ decode cX4_behindStep 138 = .ok (.getfield 86, 3) ∧ decode cX4_behindStep 141 = .ok (.iload 5, 2) ∧ decode cX4_behindStep 143 = .ok (.aaload, 1) ∧ decode cX4_behindStep 144 = .ok (.iconst 1, 1) ∧ decode cX4_behindStep 145 = .ok (.invokevirtual 90, 3) ∧ decode cX4_behindStep 148 = .ok (.goto 78, 3) ∧ decode cX4_behindStep 151 = .ok (.aload_n 0, 1) := by decide +kernel
theorem e_X4_behindStep_6 : decode cX4_behindStep 152 = .ok (.aload_n 3, 1) ∧ decode cX4_behindStep 153 = .ok (.getfield 86, 3) ∧ decode cX4_behindStep 156 = .ok (.iload 5, 2) ∧ decode cX4_behindStep 158 = .ok (.aaload, 1) ∧ decode cX4_behindStep 159 = .ok (.iconst 0, 1) ∧ decode cX4_behindStep 160 = .ok (.invokevirtual 90, 3) ∧ decode cX4_behindStep 163 = .ok (.goto 63, 3) ∧ decode cX4_behindStep 166 = .ok (.aload_n 0, 1) ∧ decode cX4_behindStep 167 = .ok (.aload_n 3, 1) ∧ decode cX4_behindStep 168 = .ok (.iload 5, 2) := by decide +kernel
theorem e_X4_behindStep_7 : decode cX4_behindStep 170 = .ok (.aload_n 0, 1) ∧ decode cX4_behindStep 171 = .ok (.iconst 4, 1) ∧ decode cX4_behindStep 172 = .ok (.invokevirtual 94, 3) ∧ decode cX4_behindStep 175 = .ok (.iconst 1, 1) ∧ decode cX4_behindStep 176 = .ok (.iadd, 1) ∧ decode cX4_behindStep 177 = .ok (.invokevirtual 82, 3) ∧ decode cX4_behindStep 180 = .ok (.goto 46, 3) ∧ decode cX4_behindStep 183 = .ok (.aload_n 0, 1) ∧ decode cX4_behindStep 184 = .ok (.aload_n 1, 1) ∧ decode cX4_behindStep 185 = .ok (.iload_n 2, 1) := by decide +kernel
theorem e_X4_behindStep_8 : decode cX4_behindStep 186 = .ok (.aload_n 3, 1) ∧ decode cX4_behindStep 187 = .ok (.aload 4, 2) ∧ decode cX4_behindStep 189 = .ok (.invokevirtual 97, 3) ∧ decode cX4_behindStep 192 = .ok (.ifCond .eq 9, 3) ∧ decode cX4_behindStep 195 = .ok (.iload_n 2, 1) ∧ decode cX4_behindStep 196 = .ok (.iconst 1, 1) ∧ decode cX4_behindStep 197 = .ok (.iadd, 1) ∧ decode cX4_behindStep 198 = .ok (.goto 11, 3) ∧ decode cX4_behindStep 201 = .ok (.aload_n 1, 1) ∧ decode cX4_behindStep 202 = .ok (.getfield 58, 3) := by decide +kernel
theorem e_X4_behindStep_9 : decode cX4_behindStep 205 = .ok (.iload_n 2, 1) ∧ decode cX4_behindStep 206 = .ok (.iaload, 1) ∧ decode cX4_behindStep 207 = .ok (.iconst 1, 1) ∧ decode cX4_behindStep 208 = .ok (.iadd, 1) ∧ decode cX4_behindStep 209 = .ok (.ireturn, 1) ∧ decode cX4_behindStep 210 = .ok (.aload_n 0, 1) ∧ decode cX4_behindStep 211 = .ok (.getfield 39, 3) ∧ decode cX4_behindStep 214 = .ok (.iload_n 2, 1) ∧ decode cX4_behindStep 215 = .ok (.iload 6, 2) ∧ decode cX4_behindStep 217 = .ok (.iastore, 1) := by decide +kernel
theorem e_X4_behindStep_10 : decode cX4_behindStep 218 = .ok (.goto 8, 3) ∧ decode cX4_behindStep 221 = .ok (.aload_n 1, 1) ∧ decode cX4_behindStep 222 = .ok (.getfield 44, 3) ∧ decode cX4_behindStep 225 = .ok (.ireturn, 1) ∧ decode cX4_behindStep 226 = .ok (.iload_n 2, 1) ∧ decode cX4_behindStep 227 = .ok (.iconst 1, 1) ∧ decode cX4_behindStep 228 = .ok (.iadd, 1) ∧ decode cX4_behindStep 229 = .ok (.ireturn, 1) := by decide +kernel
theorem S_X4_behindStep {G : Kg} {σ : Kmem} {Q : Int → Kmem → Prop} {x s l2 c : Int} (hx : isLf x) (hs : isS s) (hc : isC c) (h : (0 ≤ l2 ∧ l2 < 60) ∧ (0 ≤ l2 ∧ l2 < 60) ∧ (0 ≤ l2 ∧ l2 < 60) ∧ (rI (σ (s + 1) l2)) ∧ ((σ (s + 1) l2 = 1 → (rI ((σ c 4) + (σ (s + 4) l2))) ∧ (((σ c 4) + (σ (s + 4) l2) ≤ 9999 → Run G WX M_X0_goBy 4 0 0 [vA G c, vA G 58, vI (σ (s + 4) l2)] (kup σ x 3 ((σ x 3) + (σ (s + 4) l2))) (fun r6 s7 => Run G WX M_J6_bitCount_0f7a4 0 0 0 [vI r6] s7 (fun r8 s9 => Q (l2 + 1) (kup s9 x 5 (((kup σ x 3 ((σ x 3) + (σ (s + 4) l2))) x 5) + r8))))) ∧ (9999 < (σ c 4) + (σ (s + 4) l2) → Q (l2 + 1) (kup σ x 2 ((σ x 2) + 1))))) ∧ (σ (s + 1) l2 = 2 → Run G WX M_X4_stepOrMiss 3 0 0 [vA G x, vA G c, vI (σ (s + 3) l2), vI (σ (s + 4) l2)] σ (fun r10 s11 => Q (l2 + 1) s11)) ∧ (σ (s + 1) l2 = 3 → (0 ≤ σ (s + 3) l2 ∧ σ (s + 3) l2 < 6) ∧ Run G WX M_X4_putCut 0 0 0 [vA G x, vA G (c + 6 + (σ (s + 3) l2)), vI 1] σ (fun r13 s14 => Q (l2 + 1) s14)) ∧ (σ (s + 1) l2 = 4 → (0 ≤ σ (s + 3) l2 ∧ σ (s + 3) l2 < 6) ∧ Run G WX M_X4_putCut 0 0 0 [vA G x, vA G (c + 6 + (σ (s + 3) l2)), vI 0] σ (fun r16 s17 => Q (l2 + 1) s17)) ∧ (σ (s + 1) l2 = 5 → Run G WX M_X4_draw 0 0 0 [vA G x, vI 4] σ (fun r18 s19 => Run G WX M_X4_stepOrMiss 3 0 0 [vA G x, vA G c, vI (σ (s + 3) l2), vI (r18 + 1)] s19 (fun r20 s21 => Q (l2 + 1) s21))) ∧ (σ (s + 1) l2 = 6 → Run G WX M_X4_holds 2 0 0 [vA G x, vA G s, vI l2, vA G c, vA G 58] σ (fun r22 s23 => (rI r22) ∧ ((r22 = 0 → (0 ≤ l2 ∧ l2 < 60) ∧ Q ((s23 (s + 5) l2) + 1) s23) ∧ (r22 ≠ 0 → Q (l2 + 1) s23)))) ∧ (σ (s + 1) l2 = 7 → (0 ≤ l2 ∧ l2 < 60) ∧ Q (l2 + 1) (kup σ (x + 1) l2 (σ (s + 4) l2))) ∧ (σ (s + 1) l2 < 1 ∨ 7 < σ (s + 1) l2 → Q (σ s 2) σ))) : Run G WX M_X4_behindStep 5 0 0 [vA G x, vA G s, vI l2, vA G c, vA G 58] σ Q := by
  refine Run.of (by decide +kernel) (by show (5 : Nat) ≤ 7; decide) ?_
  show Ex G WX M_X4_behindStep 5 0 0 0 [(0, vA G x), (1, vA G s), (2, vI l2), (3, vA G c), (4, vA G 58)] [] σ Q
  refine R_aload_n e_X4_behindStep_0.1 1 rfl ?_
  refine R_getA 7 5 (s + 3) e_X4_behindStep_0.2.1 f_X4_61 (kS_self hs) (fun _ _ => rfl) (kS_r5 hs) (kS_n3 hs) ?_
  refine R_iload_n e_X4_behindStep_0.2.2.1 2 rfl ?_
  obtain ⟨q1, h⟩ := h
  refine R_iald 60 e_X4_behindStep_0.2.2.2.1 (kS_things hs) q1 ?_
  refine R_istore (ls2 := [(5, vI (σ (s + 3) l2)), (0, vA G x), (1, vA G s), (2, vI l2), (3, vA G c), (4, vA G 58)]) e_X4_behindStep_0.2.2.2.2.1 (by decide) rfl ?_
  refine R_aload_n e_X4_behindStep_0.2.2.2.2.2.1 2 rfl ?_
  refine R_getA 7 6 (s + 4) e_X4_behindStep_0.2.2.2.2.2.2.1 f_X4_64 (kS_self hs) (fun _ _ => rfl) (kS_r6 hs) (kS_n4 hs) ?_
  refine R_iload_n e_X4_behindStep_0.2.2.2.2.2.2.2.1 3 rfl ?_
  obtain ⟨q2, h⟩ := h
  refine R_iald 60 e_X4_behindStep_0.2.2.2.2.2.2.2.2.1 (kS_nums hs) q2 ?_
  refine R_istore (ls2 := [(6, vI (σ (s + 4) l2)), (5, vI (σ (s + 3) l2)), (0, vA G x), (1, vA G s), (2, vI l2), (3, vA G c), (4, vA G 58)]) e_X4_behindStep_0.2.2.2.2.2.2.2.2.2 (by decide) rfl ?_
  refine R_aload_n e_X4_behindStep_1.1 3 rfl ?_
  refine R_getA 7 3 (s + 1) e_X4_behindStep_1.2.1 f_X4_47 (kS_self hs) (fun _ _ => rfl) (kS_r3 hs) (kS_n1 hs) ?_
  refine R_iload_n e_X4_behindStep_1.2.2.1 4 rfl ?_
  obtain ⟨q3, h⟩ := h
  refine R_iald 60 e_X4_behindStep_1.2.2.2.1 (kS_kinds hs) q3 ?_
  obtain ⟨q4, h⟩ := h
  by_cases t1 : σ (s + 1) l2 = 1
  · refine R_tableIn 64 e_X4_behindStep_1.2.2.2.2.1 q4 (by omega) (by omega) (off := 42) (by rw [t1]; rfl) (by decide) ?_
    replace h := h.1 t1
    refine R_aload_n e_X4_behindStep_1.2.2.2.2.2.1 5 rfl ?_
    refine R_getI 0 4 4 e_X4_behindStep_1.2.2.2.2.2.2.1 f_X4_67 (kC_self hc) (fun _ _ => rfl) rfl ?_
    refine R_iload e_X4_behindStep_1.2.2.2.2.2.2.2.1 0 rfl ?_
    refine R_iadd e_X4_behindStep_1.2.2.2.2.2.2.2.2.1 ?_
    refine R_sipush e_X4_behindStep_1.2.2.2.2.2.2.2.2.2 (by decide) ?_
    obtain ⟨q5, h⟩ := h
    refine R_icmp_le 90 e_X4_behindStep_2.1 (by decide) q5 (by decide) (fun q => ?_) (fun q => ?_)
    · replace h := h.1 q
      refine R_aload_n e_X4_behindStep_2.2.2.2.2.2.2.2.2.1 2 rfl ?_
      refine R_dup e_X4_behindStep_2.2.2.2.2.2.2.2.2.2 rfl ?_
      refine R_getI 4 3 3 e_X4_behindStep_3.1 f_X4_22 (kL_self hx) (fun _ _ => rfl) rfl ?_
      refine R_iload e_X4_behindStep_3.2.1 0 rfl ?_
      refine R_iadd e_X4_behindStep_3.2.2.1 ?_
      refine R_putI 4 3 3 WX_ok e_X4_behindStep_3.2.2.2.1 f_X4_22 (kL_self hx) rfl rfl rfl ?_
      refine R_aload_n e_X4_behindStep_3.2.2.2.2.1 2 rfl ?_
      refine R_dup e_X4_behindStep_3.2.2.2.2.2.1 rfl ?_
      refine R_getI 4 5 5 e_X4_behindStep_3.2.2.2.2.2.2.1 f_X4_28 (kL_self hx) (fun _ _ => rfl) rfl ?_
      refine R_aload_n e_X4_behindStep_3.2.2.2.2.2.2.2.1 5 rfl ?_
      refine R_aload e_X4_behindStep_3.2.2.2.2.2.2.2.2.1 6 rfl ?_
      refine R_iload e_X4_behindStep_3.2.2.2.2.2.2.2.2.2 0 rfl ?_
      refine R_callV (mc := 0) (ms := 0) (mc' := 0) (ms' := 0) (M' := M_X0_goBy) (d' := 4) (as := [vA G 58, vI (σ (s + 4) l2)]) (st := [vI ((kup σ x 3 ((σ x 3) + (σ (s + 4) l2))) x 5), vA G x]) 0 2 e_X4_behindStep_4.1 (kCVof m_X0_goBy l_X4_72) rfl (by decide) (kC_self hc) (by decide) (by decide) rfl rfl (by show (2 : Nat) ≤ 8; decide) ?_
      refine Run.mono h (fun r6 s7 h => ?_)
      refine R_eqs (st2 := [vI r6, vI ((kup σ x 3 ((σ x 3) + (σ (s + 4) l2))) x 5), vA G x]) rfl rfl ?_
      refine R_callS (mc := 0) (ms := 0) (mc' := 0) (ms' := 0) (M' := M_J6_bitCount_0f7a4) (d' := 0) (as := [vI r6]) (st := [vI ((kup σ x 3 ((σ x 3) + (σ (s + 4) l2))) x 5), vA G x]) 1 e_X4_behindStep_4.2.1 (kCSof m_J6_bitCount_0f7a4 l_X4_76) (by decide) (by decide) rfl rfl (by show (2 : Nat) ≤ 8; decide) ?_
      refine Run.mono h (fun r8 s9 h => ?_)
      refine R_eqs (st2 := [vI r8, vI ((kup σ x 3 ((σ x 3) + (σ (s + 4) l2))) x 5), vA G x]) rfl rfl ?_
      refine R_iadd e_X4_behindStep_4.2.2.1 ?_
      refine R_putI 4 5 5 WX_ok e_X4_behindStep_4.2.2.2.1 f_X4_28 (kL_self hx) rfl rfl rfl ?_
      refine R_goto 226 e_X4_behindStep_4.2.2.2.2.1 (by decide) ?_
      refine R_iload_n e_X4_behindStep_10.2.2.2.2.1 4 rfl ?_
      refine R_iconst e_X4_behindStep_10.2.2.2.2.2.1 ?_
      refine R_iadd e_X4_behindStep_10.2.2.2.2.2.2.1 ?_
      exact R_ireturn e_X4_behindStep_10.2.2.2.2.2.2.2 rfl h
    · replace h := h.2 q
      refine R_aload_n e_X4_behindStep_2.2.1 2 rfl ?_
      refine R_dup e_X4_behindStep_2.2.2.1 rfl ?_
      refine R_getI 4 2 2 e_X4_behindStep_2.2.2.2.1 f_X4_19 (kL_self hx) (fun _ _ => rfl) rfl ?_
      refine R_iconst e_X4_behindStep_2.2.2.2.2.1 ?_
      refine R_iadd e_X4_behindStep_2.2.2.2.2.2.1 ?_
      refine R_putI 4 2 2 WX_ok e_X4_behindStep_2.2.2.2.2.2.2.1 f_X4_19 (kL_self hx) rfl rfl rfl ?_
      refine R_goto 226 e_X4_behindStep_2.2.2.2.2.2.2.2.1 (by decide) ?_
      refine R_iload_n e_X4_behindStep_10.2.2.2.2.1 4 rfl ?_
      refine R_iconst e_X4_behindStep_10.2.2.2.2.2.1 ?_
      refine R_iadd e_X4_behindStep_10.2.2.2.2.2.2.1 ?_
      exact R_ireturn e_X4_behindStep_10.2.2.2.2.2.2.2 rfl h
  by_cases t2 : σ (s + 1) l2 = 2
  · refine R_tableIn 124 e_X4_behindStep_1.2.2.2.2.1 q4 (by omega) (by omega) (off := 102) (by rw [t2]; rfl) (by decide) ?_
    replace h := h.2.1 t2
    refine R_aload_n e_X4_behindStep_4.2.2.2.2.2.1 2 rfl ?_
    refine R_aload_n e_X4_behindStep_4.2.2.2.2.2.2.1 5 rfl ?_
    refine R_iload e_X4_behindStep_4.2.2.2.2.2.2.2.1 1 rfl ?_
    refine R_iload e_X4_behindStep_4.2.2.2.2.2.2.2.2.1 0 rfl ?_
    refine R_callV (mc := 0) (ms := 0) (mc' := 0) (ms' := 0) (M' := M_X4_stepOrMiss) (d' := 3) (as := [vA G c, vI (σ (s + 3) l2), vI (σ (s + 4) l2)]) (st := []) 4 3 e_X4_behindStep_4.2.2.2.2.2.2.2.2.2 (kCVof m_X4_stepOrMiss l_X4_82) rfl (by decide) (kL_self hx) (by decide) (by decide) rfl rfl (by show (0 : Nat) ≤ 8; decide) ?_
    refine Run.mono h (fun r10 s11 h => ?_)
    refine R_eqs (st2 := []) rfl rfl ?_
    refine R_goto 226 e_X4_behindStep_5.1 (by decide) ?_
    refine R_iload_n e_X4_behindStep_10.2.2.2.2.1 4 rfl ?_
    refine R_iconst e_X4_behindStep_10.2.2.2.2.2.1 ?_
    refine R_iadd e_X4_behindStep_10.2.2.2.2.2.2.1 ?_
    exact R_ireturn e_X4_behindStep_10.2.2.2.2.2.2.2 rfl h
  by_cases t3 : σ (s + 1) l2 = 3
  · refine R_tableIn 136 e_X4_behindStep_1.2.2.2.2.1 q4 (by omega) (by omega) (off := 114) (by rw [t3]; rfl) (by decide) ?_
    replace h := h.2.2.1 t3
    refine R_aload_n e_X4_behindStep_5.2.1 2 rfl ?_
    refine R_aload_n e_X4_behindStep_5.2.2.1 5 rfl ?_
    refine R_getA 0 10 (c + 3) e_X4_behindStep_5.2.2.2.1 f_X4_86 (kC_self hc) (fun _ _ => rfl) (kC_r10 hc) (kC_n3 hc) ?_
    refine R_iload e_X4_behindStep_5.2.2.2.2.1 1 rfl ?_
    obtain ⟨q12, h⟩ := h
    refine R_aald 27 6 (c + 6 + (σ (s + 3) l2)) e_X4_behindStep_5.2.2.2.2.2.1 (by decide) (kC_kites hc) q12 (kC_kiteAt hc q12) (kC_kiteN hc q12) ?_
    refine R_iconst e_X4_behindStep_5.2.2.2.2.2.2.1 ?_
    refine R_callV (mc := 0) (ms := 0) (mc' := 0) (ms' := 0) (M' := M_X4_putCut) (d' := 0) (as := [vA G (c + 6 + (σ (s + 3) l2)), vI 1]) (st := []) 4 2 e_X4_behindStep_5.2.2.2.2.2.2.2.1 (kCVof m_X4_putCut l_X4_90) rfl (by decide) (kL_self hx) (by decide) (by decide) rfl rfl (by show (0 : Nat) ≤ 8; decide) ?_
    refine Run.mono h (fun r13 s14 h => ?_)
    refine R_eqs (st2 := []) rfl rfl ?_
    refine R_goto 226 e_X4_behindStep_5.2.2.2.2.2.2.2.2.1 (by decide) ?_
    refine R_iload_n e_X4_behindStep_10.2.2.2.2.1 4 rfl ?_
    refine R_iconst e_X4_behindStep_10.2.2.2.2.2.1 ?_
    refine R_iadd e_X4_behindStep_10.2.2.2.2.2.2.1 ?_
    exact R_ireturn e_X4_behindStep_10.2.2.2.2.2.2.2 rfl h
  by_cases t4 : σ (s + 1) l2 = 4
  · refine R_tableIn 151 e_X4_behindStep_1.2.2.2.2.1 q4 (by omega) (by omega) (off := 129) (by rw [t4]; rfl) (by decide) ?_
    replace h := h.2.2.2.1 t4
    refine R_aload_n e_X4_behindStep_5.2.2.2.2.2.2.2.2.2 2 rfl ?_
    refine R_aload_n e_X4_behindStep_6.1 5 rfl ?_
    refine R_getA 0 10 (c + 3) e_X4_behindStep_6.2.1 f_X4_86 (kC_self hc) (fun _ _ => rfl) (kC_r10 hc) (kC_n3 hc) ?_
    refine R_iload e_X4_behindStep_6.2.2.1 1 rfl ?_
    obtain ⟨q15, h⟩ := h
    refine R_aald 27 6 (c + 6 + (σ (s + 3) l2)) e_X4_behindStep_6.2.2.2.1 (by decide) (kC_kites hc) q15 (kC_kiteAt hc q15) (kC_kiteN hc q15) ?_
    refine R_iconst e_X4_behindStep_6.2.2.2.2.1 ?_
    refine R_callV (mc := 0) (ms := 0) (mc' := 0) (ms' := 0) (M' := M_X4_putCut) (d' := 0) (as := [vA G (c + 6 + (σ (s + 3) l2)), vI 0]) (st := []) 4 2 e_X4_behindStep_6.2.2.2.2.2.1 (kCVof m_X4_putCut l_X4_90) rfl (by decide) (kL_self hx) (by decide) (by decide) rfl rfl (by show (0 : Nat) ≤ 8; decide) ?_
    refine Run.mono h (fun r16 s17 h => ?_)
    refine R_eqs (st2 := []) rfl rfl ?_
    refine R_goto 226 e_X4_behindStep_6.2.2.2.2.2.2.1 (by decide) ?_
    refine R_iload_n e_X4_behindStep_10.2.2.2.2.1 4 rfl ?_
    refine R_iconst e_X4_behindStep_10.2.2.2.2.2.1 ?_
    refine R_iadd e_X4_behindStep_10.2.2.2.2.2.2.1 ?_
    exact R_ireturn e_X4_behindStep_10.2.2.2.2.2.2.2 rfl h
  by_cases t5 : σ (s + 1) l2 = 5
  · refine R_tableIn 166 e_X4_behindStep_1.2.2.2.2.1 q4 (by omega) (by omega) (off := 144) (by rw [t5]; rfl) (by decide) ?_
    replace h := h.2.2.2.2.1 t5
    refine R_aload_n e_X4_behindStep_6.2.2.2.2.2.2.2.1 2 rfl ?_
    refine R_aload_n e_X4_behindStep_6.2.2.2.2.2.2.2.2.1 5 rfl ?_
    refine R_iload e_X4_behindStep_6.2.2.2.2.2.2.2.2.2 1 rfl ?_
    refine R_aload_n e_X4_behindStep_7.1 2 rfl ?_
    refine R_iconst e_X4_behindStep_7.2.1 ?_
    refine R_callV (mc := 0) (ms := 0) (mc' := 0) (ms' := 0) (M' := M_X4_draw) (d' := 0) (as := [vI 4]) (st := [vI (σ (s + 3) l2), vA G c, vA G x]) 4 1 e_X4_behindStep_7.2.2.1 (kCVof m_X4_draw l_X4_94) rfl (by decide) (kL_self hx) (by decide) (by decide) rfl rfl (by show (3 : Nat) ≤ 8; decide) ?_
    refine Run.mono h (fun r18 s19 h => ?_)
    refine R_eqs (st2 := [vI r18, vI (σ (s + 3) l2), vA G c, vA G x]) rfl rfl ?_
    refine R_iconst e_X4_behindStep_7.2.2.2.1 ?_
    refine R_iadd e_X4_behindStep_7.2.2.2.2.1 ?_
    refine R_callV (mc := 0) (ms := 0) (mc' := 0) (ms' := 0) (M' := M_X4_stepOrMiss) (d' := 3) (as := [vA G c, vI (σ (s + 3) l2), vI (r18 + 1)]) (st := []) 4 3 e_X4_behindStep_7.2.2.2.2.2.1 (kCVof m_X4_stepOrMiss l_X4_82) rfl (by decide) (kL_self hx) (by decide) (by decide) rfl rfl (by show (0 : Nat) ≤ 8; decide) ?_
    refine Run.mono h (fun r20 s21 h => ?_)
    refine R_eqs (st2 := []) rfl rfl ?_
    refine R_goto 226 e_X4_behindStep_7.2.2.2.2.2.2.1 (by decide) ?_
    refine R_iload_n e_X4_behindStep_10.2.2.2.2.1 4 rfl ?_
    refine R_iconst e_X4_behindStep_10.2.2.2.2.2.1 ?_
    refine R_iadd e_X4_behindStep_10.2.2.2.2.2.2.1 ?_
    exact R_ireturn e_X4_behindStep_10.2.2.2.2.2.2.2 rfl h
  by_cases t6 : σ (s + 1) l2 = 6
  · refine R_tableIn 183 e_X4_behindStep_1.2.2.2.2.1 q4 (by omega) (by omega) (off := 161) (by rw [t6]; rfl) (by decide) ?_
    replace h := h.2.2.2.2.2.1 t6
    refine R_aload_n e_X4_behindStep_7.2.2.2.2.2.2.2.1 2 rfl ?_
    refine R_aload_n e_X4_behindStep_7.2.2.2.2.2.2.2.2.1 3 rfl ?_
    refine R_iload_n e_X4_behindStep_7.2.2.2.2.2.2.2.2.2 4 rfl ?_
    refine R_aload_n e_X4_behindStep_8.1 5 rfl ?_
    refine R_aload e_X4_behindStep_8.2.1 6 rfl ?_
    refine R_callV (mc := 0) (ms := 0) (mc' := 0) (ms' := 0) (M' := M_X4_holds) (d' := 2) (as := [vA G s, vI l2, vA G c, vA G 58]) (st := []) 4 4 e_X4_behindStep_8.2.2.1 (kCVof m_X4_holds l_X4_97) rfl (by decide) (kL_self hx) (by decide) (by decide) rfl rfl (by show (0 : Nat) ≤ 8; decide) ?_
    refine Run.mono h (fun r22 s23 h => ?_)
    refine R_eqs (st2 := [vI r22]) rfl rfl ?_
    obtain ⟨q24, h⟩ := h
    refine R_if_eq 201 e_X4_behindStep_8.2.2.2.1 (by decide) q24  (fun q => ?_) (fun q => ?_)
    · replace h := h.1 q
      refine R_aload_n e_X4_behindStep_8.2.2.2.2.2.2.2.2.1 3 rfl ?_
      refine R_getA 7 7 (s + 5) e_X4_behindStep_8.2.2.2.2.2.2.2.2.2 f_X4_58 (kS_self hs) (fun _ _ => rfl) (kS_r7 hs) (kS_n5 hs) ?_
      refine R_iload_n e_X4_behindStep_9.1 4 rfl ?_
      obtain ⟨q25, h⟩ := h
      refine R_iald 60 e_X4_behindStep_9.2.1 (kS_parts hs) q25 ?_
      refine R_iconst e_X4_behindStep_9.2.2.1 ?_
      refine R_iadd e_X4_behindStep_9.2.2.2.1 ?_
      exact R_ireturn e_X4_behindStep_9.2.2.2.2.1 rfl h
    · replace h := h.2 q
      refine R_iload_n e_X4_behindStep_8.2.2.2.2.1 4 rfl ?_
      refine R_iconst e_X4_behindStep_8.2.2.2.2.2.1 ?_
      refine R_iadd e_X4_behindStep_8.2.2.2.2.2.2.1 ?_
      refine R_goto 209 e_X4_behindStep_8.2.2.2.2.2.2.2.1 (by decide) ?_
      exact R_ireturn e_X4_behindStep_9.2.2.2.2.1 rfl h
  by_cases t7 : σ (s + 1) l2 = 7
  · refine R_tableIn 210 e_X4_behindStep_1.2.2.2.2.1 q4 (by omega) (by omega) (off := 188) (by rw [t7]; rfl) (by decide) ?_
    replace h := h.2.2.2.2.2.2.1 t7
    refine R_aload_n e_X4_behindStep_9.2.2.2.2.2.1 2 rfl ?_
    refine R_getA 4 8 (x + 1) e_X4_behindStep_9.2.2.2.2.2.2.1 f_X4_39 (kL_self hx) (fun _ _ => rfl) (kL_r8 hx) (kL_n1 hx) ?_
    refine R_iload_n e_X4_behindStep_9.2.2.2.2.2.2.2.1 4 rfl ?_
    refine R_iload e_X4_behindStep_9.2.2.2.2.2.2.2.2.1 0 rfl ?_
    obtain ⟨q26, h⟩ := h
    refine R_iast 60 WX_ok e_X4_behindStep_9.2.2.2.2.2.2.2.2.2 (kL_rounds hx) q26 ?_
    refine R_goto 226 e_X4_behindStep_10.1 (by decide) ?_
    refine R_iload_n e_X4_behindStep_10.2.2.2.2.1 4 rfl ?_
    refine R_iconst e_X4_behindStep_10.2.2.2.2.2.1 ?_
    refine R_iadd e_X4_behindStep_10.2.2.2.2.2.2.1 ?_
    exact R_ireturn e_X4_behindStep_10.2.2.2.2.2.2.2 rfl h
  refine R_tableOut 221 e_X4_behindStep_1.2.2.2.2.1 q4 (by omega) (by decide) ?_
  replace h := h.2.2.2.2.2.2.2 (by omega)
  refine R_aload_n e_X4_behindStep_10.2.1 3 rfl ?_
  refine R_getI 7 2 2 e_X4_behindStep_10.2.2.1 f_X4_44 (kS_self hs) (fun _ _ => rfl) rfl ?_
  exact R_ireturn e_X4_behindStep_10.2.2.2.1 rfl h
/-! KiteLand$Life.stepOrMiss(LKiteLand$County;II)V -/
theorem e_X4_stepOrMiss_0 : decode cX4_stepOrMiss 0 = .ok (.aload_n 1, 1) ∧ decode cX4_stepOrMiss 1 = .ok (.iload_n 2, 1) ∧ decode cX4_stepOrMiss 2 = .ok (.iload_n 3, 1) ∧ decode cX4_stepOrMiss 3 = .ok (.invokevirtual 101, 3) ∧ decode cX4_stepOrMiss 6 = .ok (.ifCond .eq 22, 3) ∧ decode cX4_stepOrMiss 9 = .ok (.aload_n 1, 1) ∧ decode cX4_stepOrMiss 10 = .ok (.iload_n 2, 1) ∧ decode cX4_stepOrMiss 11 = .ok (.iload_n 3, 1) ∧ decode cX4_stepOrMiss 12 = .ok (.invokevirtual 105, 3) ∧ decode cX4_stepOrMiss 15 = .ok (.aload_n 0, 1) := by decide +kernel
theorem e_X4_stepOrMiss_1 : decode cX4_stepOrMiss 16 = .ok (.dup, 1) ∧ decode cX4_stepOrMiss 17 = .ok (.getfield 25, 3) ∧ decode cX4_stepOrMiss 20 = .ok (.iconst 1, 1) ∧ decode cX4_stepOrMiss 21 = .ok (.iadd, 1) ∧ decode cX4_stepOrMiss 22 = .ok (.putfield 25, 3) ∧ decode cX4_stepOrMiss 25 = .ok (.goto 13, 3) ∧ decode cX4_stepOrMiss 28 = .ok (.aload_n 0, 1) ∧ decode cX4_stepOrMiss 29 = .ok (.dup, 1) ∧ decode cX4_stepOrMiss 30 = .ok (.getfield 19, 3) ∧ decode cX4_stepOrMiss 33 = .ok (.iconst 1, 1) := by decide +kernel
theorem e_X4_stepOrMiss_2 : decode cX4_stepOrMiss 34 = .ok (.iadd, 1) ∧ decode cX4_stepOrMiss 35 = .ok (.putfield 19, 3) ∧ decode cX4_stepOrMiss 38 = .ok (.return_, 1) := by decide +kernel
theorem S_X4_stepOrMiss {G : Kg} {σ : Kmem} {Q : Int → Kmem → Prop} {x c l2 l3 : Int} (hx : isLf x) (hc : isC c) (h : Run G WX M_X0_mayStep 2 0 0 [vA G c, vI l2, vI l3] σ (fun r1 s2 => (rI r1) ∧ ((r1 = 0 → Q 0 (kup s2 x 2 ((s2 x 2) + 1))) ∧ (r1 ≠ 0 → Run G WX M_X0_stepHand 0 0 0 [vA G c, vI l2, vI l3] s2 (fun r4 s5 => Q 0 (kup s5 x 4 ((s5 x 4) + 1))))))) : Run G WX M_X4_stepOrMiss 3 0 0 [vA G x, vA G c, vI l2, vI l3] σ Q := by
  refine Run.of (by decide +kernel) (by show (4 : Nat) ≤ 4; decide) ?_
  show Ex G WX M_X4_stepOrMiss 3 0 0 0 [(0, vA G x), (1, vA G c), (2, vI l2), (3, vI l3)] [] σ Q
  refine R_aload_n e_X4_stepOrMiss_0.1 1 rfl ?_
  refine R_iload_n e_X4_stepOrMiss_0.2.1 2 rfl ?_
  refine R_iload_n e_X4_stepOrMiss_0.2.2.1 3 rfl ?_
  refine R_callV (mc := 0) (ms := 0) (mc' := 0) (ms' := 0) (M' := M_X0_mayStep) (d' := 2) (as := [vI l2, vI l3]) (st := []) 0 2 e_X4_stepOrMiss_0.2.2.2.1 (kCVof m_X0_mayStep l_X4_101) rfl (by decide) (kC_self hc) (by decide) (by decide) rfl rfl (by show (0 : Nat) ≤ 8; decide) ?_
  refine Run.mono h (fun r1 s2 h => ?_)
  refine R_eqs (st2 := [vI r1]) rfl rfl ?_
  obtain ⟨q3, h⟩ := h
  refine R_if_eq 28 e_X4_stepOrMiss_0.2.2.2.2.1 (by decide) q3  (fun q => ?_) (fun q => ?_)
  · replace h := h.1 q
    refine R_aload_n e_X4_stepOrMiss_1.2.2.2.2.2.2.1 0 rfl ?_
    refine R_dup e_X4_stepOrMiss_1.2.2.2.2.2.2.2.1 rfl ?_
    refine R_getI 4 2 2 e_X4_stepOrMiss_1.2.2.2.2.2.2.2.2.1 f_X4_19 (kL_self hx) (fun _ _ => rfl) rfl ?_
    refine R_iconst e_X4_stepOrMiss_1.2.2.2.2.2.2.2.2.2 ?_
    refine R_iadd e_X4_stepOrMiss_2.1 ?_
    refine R_putI 4 2 2 WX_ok e_X4_stepOrMiss_2.2.1 f_X4_19 (kL_self hx) rfl rfl rfl ?_
    exact R_return e_X4_stepOrMiss_2.2.2 rfl h
  · replace h := h.2 q
    refine R_aload_n e_X4_stepOrMiss_0.2.2.2.2.2.1 1 rfl ?_
    refine R_iload_n e_X4_stepOrMiss_0.2.2.2.2.2.2.1 2 rfl ?_
    refine R_iload_n e_X4_stepOrMiss_0.2.2.2.2.2.2.2.1 3 rfl ?_
    refine R_callV (mc := 0) (ms := 0) (mc' := 0) (ms' := 0) (M' := M_X0_stepHand) (d' := 0) (as := [vI l2, vI l3]) (st := []) 0 2 e_X4_stepOrMiss_0.2.2.2.2.2.2.2.2.1 (kCVof m_X0_stepHand l_X4_105) rfl (by decide) (kC_self hc) (by decide) (by decide) rfl rfl (by show (0 : Nat) ≤ 8; decide) ?_
    refine Run.mono h (fun r4 s5 h => ?_)
    refine R_eqs (st2 := []) rfl rfl ?_
    refine R_aload_n e_X4_stepOrMiss_0.2.2.2.2.2.2.2.2.2 0 rfl ?_
    refine R_dup e_X4_stepOrMiss_1.1 rfl ?_
    refine R_getI 4 4 4 e_X4_stepOrMiss_1.2.1 f_X4_25 (kL_self hx) (fun _ _ => rfl) rfl ?_
    refine R_iconst e_X4_stepOrMiss_1.2.2.1 ?_
    refine R_iadd e_X4_stepOrMiss_1.2.2.2.1 ?_
    refine R_putI 4 4 4 WX_ok e_X4_stepOrMiss_1.2.2.2.2.1 f_X4_25 (kL_self hx) rfl rfl rfl ?_
    refine R_goto 38 e_X4_stepOrMiss_1.2.2.2.2.2.1 (by decide) ?_
    exact R_return e_X4_stepOrMiss_2.2.2 rfl h
/-! KiteLand$Life.putCut(LKiteLand$Kite;Z)V -/
theorem e_X4_putCut_0 : decode cX4_putCut 0 = .ok (.aload_n 1, 1) ∧ decode cX4_putCut 1 = .ok (.getfield 109, 3) ∧ decode cX4_putCut 4 = .ok (.iload_n 2, 1) ∧ decode cX4_putCut 5 = .ok (.if_icmp .ne 13, 3) ∧ decode cX4_putCut 8 = .ok (.aload_n 0, 1) ∧ decode cX4_putCut 9 = .ok (.dup, 1) ∧ decode cX4_putCut 10 = .ok (.getfield 19, 3) ∧ decode cX4_putCut 13 = .ok (.iconst 1, 1) ∧ decode cX4_putCut 14 = .ok (.iadd, 1) ∧ decode cX4_putCut 15 = .ok (.putfield 19, 3) := by decide +kernel
theorem e_X4_putCut_1 : decode cX4_putCut 18 = .ok (.aload_n 1, 1) ∧ decode cX4_putCut 19 = .ok (.iload_n 2, 1) ∧ decode cX4_putCut 20 = .ok (.putfield 109, 3) ∧ decode cX4_putCut 23 = .ok (.return_, 1) := by decide +kernel
theorem S_X4_putCut {G : Kg} {σ : Kmem} {Q : Int → Kmem → Prop} {x a l2 : Int} (hx : isLf x) (ha : kIsX a 3) (h : (rI (σ a 9)) ∧ (rI l2) ∧ ((σ a 9 ≠ l2 → (l2 = 0 ∨ l2 = 1) ∧ Q 0 (kup σ a 9 l2)) ∧ (σ a 9 = l2 → (l2 = 0 ∨ l2 = 1) ∧ Q 0 (kup (kup σ x 2 ((σ x 2) + 1)) a 9 l2)))) : Run G WX M_X4_putCut 0 0 0 [vA G x, vA G a, vI l2] σ Q := by
  refine Run.of (by decide +kernel) (by show (3 : Nat) ≤ 3; decide) ?_
  show Ex G WX M_X4_putCut 0 0 0 0 [(0, vA G x), (1, vA G a), (2, vI l2)] [] σ Q
  refine R_aload_n e_X4_putCut_0.1 1 rfl ?_
  refine R_getI 3 9 9 e_X4_putCut_0.2.1 f_X4_109 (kLX ha) (fun _ _ => rfl) rfl ?_
  refine R_iload_n e_X4_putCut_0.2.2.1 2 rfl ?_
  obtain ⟨q1, h⟩ := h
  obtain ⟨q2, h⟩ := h
  refine R_icmp_ne 18 e_X4_putCut_0.2.2.2.1 (by decide) q1 q2 (fun q => ?_) (fun q => ?_)
  · replace h := h.1 q
    refine R_aload_n e_X4_putCut_1.1 1 rfl ?_
    refine R_iload_n e_X4_putCut_1.2.1 2 rfl ?_
    obtain ⟨q3, h⟩ := h
    refine R_putZ 3 9 9 WX_ok e_X4_putCut_1.2.2.1 f_X4_109 (kLX ha) rfl rfl rfl q3 ?_
    exact R_return e_X4_putCut_1.2.2.2 rfl h
  · replace h := h.2 q
    refine R_aload_n e_X4_putCut_0.2.2.2.2.1 0 rfl ?_
    refine R_dup e_X4_putCut_0.2.2.2.2.2.1 rfl ?_
    refine R_getI 4 2 2 e_X4_putCut_0.2.2.2.2.2.2.1 f_X4_19 (kL_self hx) (fun _ _ => rfl) rfl ?_
    refine R_iconst e_X4_putCut_0.2.2.2.2.2.2.2.1 ?_
    refine R_iadd e_X4_putCut_0.2.2.2.2.2.2.2.2.1 ?_
    refine R_putI 4 2 2 WX_ok e_X4_putCut_0.2.2.2.2.2.2.2.2.2 f_X4_19 (kL_self hx) rfl rfl rfl ?_
    refine R_aload_n e_X4_putCut_1.1 1 rfl ?_
    refine R_iload_n e_X4_putCut_1.2.1 2 rfl ?_
    obtain ⟨q4, h⟩ := h
    refine R_putZ 3 9 9 WX_ok e_X4_putCut_1.2.2.1 f_X4_109 (kLX ha) rfl rfl rfl q4 ?_
    exact R_return e_X4_putCut_1.2.2.2 rfl h
/-! KiteLand$Life.holds(LKiteLand$Seasons;ILKiteLand$County;LKiteLand$Sky;)Z -/
theorem e_X4_holds_0 : decode cX4_holds 0 = .ok (.aload_n 1, 1) ∧ decode cX4_holds 1 = .ok (.getfield 61, 3) ∧ decode cX4_holds 4 = .ok (.iload_n 2, 1) ∧ decode cX4_holds 5 = .ok (.iaload, 1) ∧ decode cX4_holds 6 = .ok (.istore 5, 2) ∧ decode cX4_holds 8 = .ok (.aload_n 1, 1) ∧ decode cX4_holds 9 = .ok (.getfield 64, 3) ∧ decode cX4_holds 12 = .ok (.iload_n 2, 1) ∧ decode cX4_holds 13 = .ok (.iaload, 1) ∧ decode cX4_holds 14 = .ok (.istore 6, 2) := by decide +kernel
theorem e_X4_holds_1 : decode cX4_holds 16 = .ok (.aload_n 1, 1) ∧ decode cX4_holds 17 = .ok (.getfield 114, 3) ∧ decode cX4_holds 20 = .ok (.iload_n 2, 1) ∧ decode cX4_holds 21 = .ok (.iaload, 1) ∧ decode cX4_holds 22 = .ok (.tableswitch 104 1 4 #[30, 51, 72, 93], 30) ∧ decode cX4_holds 52 = .ok (.aload_n 3, 1) ∧ decode cX4_holds 53 = .ok (.getfield 86, 3) ∧ decode cX4_holds 56 = .ok (.iload 5, 2) ∧ decode cX4_holds 58 = .ok (.aaload, 1) ∧ decode cX4_holds 59 = .ok (.getfield 117, 3) := by decide +kernel
theorem e_X4_holds_2 : decode cX4_holds 62 = .ok (.iload 6, 2) ∧ decode cX4_holds 64 = .ok (.if_icmp .ge 7, 3) ∧ decode cX4_holds 67 = .ok (.iconst 1, 1) ∧ decode cX4_holds 68 = .ok (.goto 4, 3) ∧ decode cX4_holds 71 = .ok (.iconst 0, 1) ∧ decode cX4_holds 72 = .ok (.ireturn, 1) ∧ decode cX4_holds 73 = .ok (.aload_n 3, 1) ∧ decode cX4_holds 74 = .ok (.getfield 86, 3) ∧ decode cX4_holds 77 = .ok (.iload 5, 2) ∧ decode cX4_holds 79 = .ok (.aaload, 1) := by decide +kernel
theorem e_X4_holds_3 : decode cX4_holds 80 = .ok (.getfield 117, 3) ∧ decode cX4_holds 83 = .ok (.iload 6, 2) ∧ decode cX4_holds 85 = .ok (.if_icmp .le 7, 3) ∧ decode cX4_holds 88 = .ok (.iconst 1, 1) ∧ decode cX4_holds 89 = .ok (.goto 4, 3) ∧ decode cX4_holds 92 = .ok (.iconst 0, 1) ∧ decode cX4_holds 93 = .ok (.ireturn, 1) ∧ decode cX4_holds 94 = .ok (.aload_n 3, 1) ∧ decode cX4_holds 95 = .ok (.getfield 86, 3) ∧ decode cX4_holds 98 = .ok (.iload 5, 2) := by decide +kernel
theorem e_X4_holds_4 : decode cX4_holds 100 = .ok (.aaload, 1) ∧ decode cX4_holds 101 = .ok (.getfield 117, 3) ∧ decode cX4_holds 104 = .ok (.iload 6, 2) ∧ decode cX4_holds 106 = .ok (.if_icmp .ne 7, 3) ∧ decode cX4_holds 109 = .ok (.iconst 1, 1) ∧ decode cX4_holds 110 = .ok (.goto 4, 3) ∧ decode cX4_holds 113 = .ok (.iconst 0, 1) ∧ decode cX4_holds 114 = .ok (.ireturn, 1) ∧ decode cX4_holds 115 = .ok (.aload_n 3, 1) ∧ decode cX4_holds 116 = .ok (.getfield 120, 3) := by decide +kernel
theorem e_X4_holds_5 : decode cX4_holds 119 = .ok (.iload 5, 2) ∧ decode cX4_holds 121 = .ok (.aaload, 1) ∧ decode cX4_holds 122 = .ok (.invokevirtual 124, 3) ∧ decode cX4_holds 125 = .ok (.ireturn, 1) ∧ decode cX4_holds 126 = .ok (.aload 4, 2) ∧ decode cX4_holds 128 = .ok (.aload_n 3, 1) ∧ decode cX4_holds 129 = .ok (.aload_n 3, 1) ∧ decode cX4_holds 130 = .ok (.invokevirtual 130, 3) ∧ decode cX4_holds 133 = .ok (.aload_n 3, 1) ∧ decode cX4_holds 134 = .ok (.invokevirtual 134, 3) := by decide +kernel
theorem e_X4_holds_6 : decode cX4_holds 137 = .ok (.invokevirtual 137, 3) ∧ decode cX4_holds 140 = .ok (.aload 4, 2) ∧ decode cX4_holds 142 = .ok (.iload 5, 2) ∧ decode cX4_holds 144 = .ok (.invokevirtual 142, 3) ∧ decode cX4_holds 147 = .ok (.ireturn, 1) := by decide +kernel
theorem S_X4_holds {G : Kg} {σ : Kmem} {Q : Int → Kmem → Prop} {x s l2 c : Int} (hx : isLf x) (hs : isS s) (hc : isC c) (h : (0 ≤ l2 ∧ l2 < 60) ∧ (0 ≤ l2 ∧ l2 < 60) ∧ (0 ≤ l2 ∧ l2 < 60) ∧ (rI (σ (s + 2) l2)) ∧ ((σ (s + 2) l2 = 1 → (0 ≤ σ (s + 3) l2 ∧ σ (s + 3) l2 < 6) ∧ (rI (σ (c + 6 + (σ (s + 3) l2)) 7)) ∧ (rI (σ (s + 4) l2)) ∧ ((σ (s + 4) l2 ≤ σ (c + 6 + (σ (s + 3) l2)) 7 → Q 0 σ) ∧ (σ (c + 6 + (σ (s + 3) l2)) 7 < σ (s + 4) l2 → Q 1 σ))) ∧ (σ (s + 2) l2 = 2 → (0 ≤ σ (s + 3) l2 ∧ σ (s + 3) l2 < 6) ∧ (rI (σ (c + 6 + (σ (s + 3) l2)) 7)) ∧ (rI (σ (s + 4) l2)) ∧ ((σ (c + 6 + (σ (s + 3) l2)) 7 ≤ σ (s + 4) l2 → Q 0 σ) ∧ (σ (s + 4) l2 < σ (c + 6 + (σ (s + 3) l2)) 7 → Q 1 σ))) ∧ (σ (s + 2) l2 = 3 → (0 ≤ σ (s + 3) l2 ∧ σ (s + 3) l2 < 6) ∧ (rI (σ (c + 6 + (σ (s + 3) l2)) 7)) ∧ (rI (σ (s + 4) l2)) ∧ ((σ (c + 6 + (σ (s + 3) l2)) 7 ≠ σ (s + 4) l2 → Q 0 σ) ∧ (σ (c + 6 + (σ (s + 3) l2)) 7 = σ (s + 4) l2 → Q 1 σ))) ∧ (σ (s + 2) l2 = 4 → (0 ≤ σ (s + 3) l2 ∧ σ (s + 3) l2 < 8) ∧ Run G WX M_X2_isRipe 0 0 0 [vA G (c + 12 + (σ (s + 3) l2))] σ (fun r15 s16 => (r15 = 0 ∨ r15 = 1) ∧ Q r15 s16)) ∧ (σ (s + 2) l2 < 1 ∨ 4 < σ (s + 2) l2 → Run G WX M_X0_hourOfDay 0 0 0 [vA G c] σ (fun r18 s19 => Run G WX M_X0_cutSet 0 0 0 [vA G c] s19 (fun r20 s21 => Run G WX M_X8_raise 1 0 0 [vA G 58, vA G c, vI r18, vI r20] s21 (fun r22 s23 => Run G WX M_X8_isUp 0 0 0 [vA G 58, vI (σ (s + 3) l2)] s23 (fun r24 s25 => (r24 = 0 ∨ r24 = 1) ∧ Q r24 s25))))))) : Run G WX M_X4_holds 2 0 0 [vA G x, vA G s, vI l2, vA G c, vA G 58] σ Q := by
  refine Run.of (by decide +kernel) (by show (5 : Nat) ≤ 7; decide) ?_
  show Ex G WX M_X4_holds 2 0 0 0 [(0, vA G x), (1, vA G s), (2, vI l2), (3, vA G c), (4, vA G 58)] [] σ Q
  refine R_aload_n e_X4_holds_0.1 1 rfl ?_
  refine R_getA 7 5 (s + 3) e_X4_holds_0.2.1 f_X4_61 (kS_self hs) (fun _ _ => rfl) (kS_r5 hs) (kS_n3 hs) ?_
  refine R_iload_n e_X4_holds_0.2.2.1 2 rfl ?_
  obtain ⟨q1, h⟩ := h
  refine R_iald 60 e_X4_holds_0.2.2.2.1 (kS_things hs) q1 ?_
  refine R_istore (ls2 := [(5, vI (σ (s + 3) l2)), (0, vA G x), (1, vA G s), (2, vI l2), (3, vA G c), (4, vA G 58)]) e_X4_holds_0.2.2.2.2.1 (by decide) rfl ?_
  refine R_aload_n e_X4_holds_0.2.2.2.2.2.1 2 rfl ?_
  refine R_getA 7 6 (s + 4) e_X4_holds_0.2.2.2.2.2.2.1 f_X4_64 (kS_self hs) (fun _ _ => rfl) (kS_r6 hs) (kS_n4 hs) ?_
  refine R_iload_n e_X4_holds_0.2.2.2.2.2.2.2.1 3 rfl ?_
  obtain ⟨q2, h⟩ := h
  refine R_iald 60 e_X4_holds_0.2.2.2.2.2.2.2.2.1 (kS_nums hs) q2 ?_
  refine R_istore (ls2 := [(6, vI (σ (s + 4) l2)), (5, vI (σ (s + 3) l2)), (0, vA G x), (1, vA G s), (2, vI l2), (3, vA G c), (4, vA G 58)]) e_X4_holds_0.2.2.2.2.2.2.2.2.2 (by decide) rfl ?_
  refine R_aload_n e_X4_holds_1.1 3 rfl ?_
  refine R_getA 7 4 (s + 2) e_X4_holds_1.2.1 f_X4_114 (kS_self hs) (fun _ _ => rfl) (kS_r4 hs) (kS_n2 hs) ?_
  refine R_iload_n e_X4_holds_1.2.2.1 4 rfl ?_
  obtain ⟨q3, h⟩ := h
  refine R_iald 60 e_X4_holds_1.2.2.2.1 (kS_tests hs) q3 ?_
  obtain ⟨q4, h⟩ := h
  by_cases t1 : σ (s + 2) l2 = 1
  · refine R_tableIn 52 e_X4_holds_1.2.2.2.2.1 q4 (by omega) (by omega) (off := 30) (by rw [t1]; rfl) (by decide) ?_
    replace h := h.1 t1
    refine R_aload_n e_X4_holds_1.2.2.2.2.2.1 5 rfl ?_
    refine R_getA 0 10 (c + 3) e_X4_holds_1.2.2.2.2.2.2.1 f_X4_86 (kC_self hc) (fun _ _ => rfl) (kC_r10 hc) (kC_n3 hc) ?_
    refine R_iload e_X4_holds_1.2.2.2.2.2.2.2.1 1 rfl ?_
    obtain ⟨q5, h⟩ := h
    refine R_aald 27 6 (c + 6 + (σ (s + 3) l2)) e_X4_holds_1.2.2.2.2.2.2.2.2.1 (by decide) (kC_kites hc) q5 (kC_kiteAt hc q5) (kC_kiteN hc q5) ?_
    refine R_getI 3 7 7 e_X4_holds_1.2.2.2.2.2.2.2.2.2 f_X4_117 (kC_kite hc q5) (fun _ _ => rfl) rfl ?_
    refine R_iload e_X4_holds_2.1 0 rfl ?_
    obtain ⟨q6, h⟩ := h
    obtain ⟨q7, h⟩ := h
    refine R_icmp_ge 71 e_X4_holds_2.2.1 (by decide) q6 q7 (fun q => ?_) (fun q => ?_)
    · replace h := h.1 q
      refine R_iconst e_X4_holds_2.2.2.2.2.1 ?_
      exact R_zreturn e_X4_holds_2.2.2.2.2.2.1 rfl (Or.inl rfl) h
    · replace h := h.2 q
      refine R_iconst e_X4_holds_2.2.2.1 ?_
      refine R_goto 72 e_X4_holds_2.2.2.2.1 (by decide) ?_
      exact R_zreturn e_X4_holds_2.2.2.2.2.2.1 rfl (Or.inr rfl) h
  by_cases t2 : σ (s + 2) l2 = 2
  · refine R_tableIn 73 e_X4_holds_1.2.2.2.2.1 q4 (by omega) (by omega) (off := 51) (by rw [t2]; rfl) (by decide) ?_
    replace h := h.2.1 t2
    refine R_aload_n e_X4_holds_2.2.2.2.2.2.2.1 5 rfl ?_
    refine R_getA 0 10 (c + 3) e_X4_holds_2.2.2.2.2.2.2.2.1 f_X4_86 (kC_self hc) (fun _ _ => rfl) (kC_r10 hc) (kC_n3 hc) ?_
    refine R_iload e_X4_holds_2.2.2.2.2.2.2.2.2.1 1 rfl ?_
    obtain ⟨q8, h⟩ := h
    refine R_aald 27 6 (c + 6 + (σ (s + 3) l2)) e_X4_holds_2.2.2.2.2.2.2.2.2.2 (by decide) (kC_kites hc) q8 (kC_kiteAt hc q8) (kC_kiteN hc q8) ?_
    refine R_getI 3 7 7 e_X4_holds_3.1 f_X4_117 (kC_kite hc q8) (fun _ _ => rfl) rfl ?_
    refine R_iload e_X4_holds_3.2.1 0 rfl ?_
    obtain ⟨q9, h⟩ := h
    obtain ⟨q10, h⟩ := h
    refine R_icmp_le 92 e_X4_holds_3.2.2.1 (by decide) q9 q10 (fun q => ?_) (fun q => ?_)
    · replace h := h.1 q
      refine R_iconst e_X4_holds_3.2.2.2.2.2.1 ?_
      exact R_zreturn e_X4_holds_3.2.2.2.2.2.2.1 rfl (Or.inl rfl) h
    · replace h := h.2 q
      refine R_iconst e_X4_holds_3.2.2.2.1 ?_
      refine R_goto 93 e_X4_holds_3.2.2.2.2.1 (by decide) ?_
      exact R_zreturn e_X4_holds_3.2.2.2.2.2.2.1 rfl (Or.inr rfl) h
  by_cases t3 : σ (s + 2) l2 = 3
  · refine R_tableIn 94 e_X4_holds_1.2.2.2.2.1 q4 (by omega) (by omega) (off := 72) (by rw [t3]; rfl) (by decide) ?_
    replace h := h.2.2.1 t3
    refine R_aload_n e_X4_holds_3.2.2.2.2.2.2.2.1 5 rfl ?_
    refine R_getA 0 10 (c + 3) e_X4_holds_3.2.2.2.2.2.2.2.2.1 f_X4_86 (kC_self hc) (fun _ _ => rfl) (kC_r10 hc) (kC_n3 hc) ?_
    refine R_iload e_X4_holds_3.2.2.2.2.2.2.2.2.2 1 rfl ?_
    obtain ⟨q11, h⟩ := h
    refine R_aald 27 6 (c + 6 + (σ (s + 3) l2)) e_X4_holds_4.1 (by decide) (kC_kites hc) q11 (kC_kiteAt hc q11) (kC_kiteN hc q11) ?_
    refine R_getI 3 7 7 e_X4_holds_4.2.1 f_X4_117 (kC_kite hc q11) (fun _ _ => rfl) rfl ?_
    refine R_iload e_X4_holds_4.2.2.1 0 rfl ?_
    obtain ⟨q12, h⟩ := h
    obtain ⟨q13, h⟩ := h
    refine R_icmp_ne 113 e_X4_holds_4.2.2.2.1 (by decide) q12 q13 (fun q => ?_) (fun q => ?_)
    · replace h := h.1 q
      refine R_iconst e_X4_holds_4.2.2.2.2.2.2.1 ?_
      exact R_zreturn e_X4_holds_4.2.2.2.2.2.2.2.1 rfl (Or.inl rfl) h
    · replace h := h.2 q
      refine R_iconst e_X4_holds_4.2.2.2.2.1 ?_
      refine R_goto 114 e_X4_holds_4.2.2.2.2.2.1 (by decide) ?_
      exact R_zreturn e_X4_holds_4.2.2.2.2.2.2.2.1 rfl (Or.inr rfl) h
  by_cases t4 : σ (s + 2) l2 = 4
  · refine R_tableIn 115 e_X4_holds_1.2.2.2.2.1 q4 (by omega) (by omega) (off := 93) (by rw [t4]; rfl) (by decide) ?_
    replace h := h.2.2.2.1 t4
    refine R_aload_n e_X4_holds_4.2.2.2.2.2.2.2.2.1 5 rfl ?_
    refine R_getA 0 11 (c + 4) e_X4_holds_4.2.2.2.2.2.2.2.2.2 f_X4_120 (kC_self hc) (fun _ _ => rfl) (kC_r11 hc) (kC_n4 hc) ?_
    refine R_iload e_X4_holds_5.1 1 rfl ?_
    obtain ⟨q14, h⟩ := h
    refine R_aald 28 8 (c + 12 + (σ (s + 3) l2)) e_X4_holds_5.2.1 (by decide) (kC_crops hc) q14 (kC_cropAt hc q14) (kC_cropN hc q14) ?_
    refine R_callV (mc := 0) (ms := 0) (mc' := 0) (ms' := 0) (M' := M_X2_isRipe) (d' := 0) (as := []) (st := []) 2 0 e_X4_holds_5.2.2.1 (kCVof m_X2_isRipe l_X4_124) rfl (by decide) (kC_crop hc q14) (by decide) (by decide) rfl rfl (by show (0 : Nat) ≤ 8; decide) ?_
    refine Run.mono h (fun r15 s16 h => ?_)
    refine R_eqs (st2 := [vI r15]) rfl rfl ?_
    obtain ⟨q17, h⟩ := h
    exact R_zreturn e_X4_holds_5.2.2.2.1 rfl q17 h
  refine R_tableOut 126 e_X4_holds_1.2.2.2.2.1 q4 (by omega) (by decide) ?_
  replace h := h.2.2.2.2 (by omega)
  refine R_aload e_X4_holds_5.2.2.2.2.1 6 rfl ?_
  refine R_aload_n e_X4_holds_5.2.2.2.2.2.1 5 rfl ?_
  refine R_aload_n e_X4_holds_5.2.2.2.2.2.2.1 5 rfl ?_
  refine R_callV (mc := 0) (ms := 0) (mc' := 0) (ms' := 0) (M' := M_X0_hourOfDay) (d' := 0) (as := []) (st := [vA G c, vA G 58]) 0 0 e_X4_holds_5.2.2.2.2.2.2.2.1 (kCVof m_X0_hourOfDay l_X4_130) rfl (by decide) (kC_self hc) (by decide) (by decide) rfl rfl (by show (2 : Nat) ≤ 8; decide) ?_
  refine Run.mono h (fun r18 s19 h => ?_)
  refine R_eqs (st2 := [vI r18, vA G c, vA G 58]) rfl rfl ?_
  refine R_aload_n e_X4_holds_5.2.2.2.2.2.2.2.2.1 5 rfl ?_
  refine R_callV (mc := 0) (ms := 0) (mc' := 0) (ms' := 0) (M' := M_X0_cutSet) (d' := 0) (as := []) (st := [vI r18, vA G c, vA G 58]) 0 0 e_X4_holds_5.2.2.2.2.2.2.2.2.2 (kCVof m_X0_cutSet l_X4_134) rfl (by decide) (kC_self hc) (by decide) (by decide) rfl rfl (by show (3 : Nat) ≤ 8; decide) ?_
  refine Run.mono h (fun r20 s21 h => ?_)
  refine R_eqs (st2 := [vI r20, vI r18, vA G c, vA G 58]) rfl rfl ?_
  refine R_callV (mc := 0) (ms := 0) (mc' := 0) (ms' := 0) (M' := M_X8_raise) (d' := 1) (as := [vA G c, vI r18, vI r20]) (st := []) 8 3 e_X4_holds_6.1 (kCVof m_X8_raise l_X4_137) rfl (by decide) kx_58 (by decide) (by decide) rfl rfl (by show (0 : Nat) ≤ 8; decide) ?_
  refine Run.mono h (fun r22 s23 h => ?_)
  refine R_eqs (st2 := []) rfl rfl ?_
  refine R_aload e_X4_holds_6.2.1 6 rfl ?_
  refine R_iload e_X4_holds_6.2.2.1 1 rfl ?_
  refine R_callV (mc := 0) (ms := 0) (mc' := 0) (ms' := 0) (M' := M_X8_isUp) (d' := 0) (as := [vI (σ (s + 3) l2)]) (st := []) 8 1 e_X4_holds_6.2.2.2.1 (kCVof m_X8_isUp l_X4_142) rfl (by decide) kx_58 (by decide) (by decide) rfl rfl (by show (0 : Nat) ≤ 8; decide) ?_
  refine Run.mono h (fun r24 s25 h => ?_)
  refine R_eqs (st2 := [vI r24]) rfl rfl ?_
  obtain ⟨q26, h⟩ := h
  exact R_zreturn e_X4_holds_6.2.2.2.2 rfl q26 h
/-! KiteLand$Life.draw(I)I -/
theorem e_X4_draw_0 : decode cX4_draw 0 = .ok (.aload_n 0, 1) ∧ decode cX4_draw 1 = .ok (.aload_n 0, 1) ∧ decode cX4_draw 2 = .ok (.getfield 34, 3) ∧ decode cX4_draw 5 = .ok (.sipush 3001, 3) ∧ decode cX4_draw 8 = .ok (.imul, 1) ∧ decode cX4_draw 9 = .ok (.sipush 11197, 3) ∧ decode cX4_draw 12 = .ok (.iadd, 1) ∧ decode cX4_draw 13 = .ok (.ldc 146, 2) ∧ decode cX4_draw 15 = .ok (.irem, 1) ∧ decode cX4_draw 16 = .ok (.putfield 34, 3) := by decide +kernel
theorem e_X4_draw_1 : decode cX4_draw 19 = .ok (.aload_n 0, 1) ∧ decode cX4_draw 20 = .ok (.getfield 34, 3) ∧ decode cX4_draw 23 = .ok (.bipush 8, 2) ∧ decode cX4_draw 25 = .ok (.idiv, 1) ∧ decode cX4_draw 26 = .ok (.iload_n 1, 1) ∧ decode cX4_draw 27 = .ok (.irem, 1) ∧ decode cX4_draw 28 = .ok (.ireturn, 1) := by decide +kernel
theorem S_X4_draw {G : Kg} {σ : Kmem} {Q : Int → Kmem → Prop} {x l1 : Int} (hx : isLf x) (h : (0 ≤ ((σ x 7) * 3001) + 11197 ∧ ((σ x 7) * 3001) + 11197 ≤ 2147483647) ∧ (0 ≤ (kup σ x 7 ((((σ x 7) * 3001) + 11197) % 65536)) x 7 ∧ (kup σ x 7 ((((σ x 7) * 3001) + 11197) % 65536)) x 7 ≤ 2147483647) ∧ (0 ≤ ((kup σ x 7 ((((σ x 7) * 3001) + 11197) % 65536)) x 7) / 8 ∧ ((kup σ x 7 ((((σ x 7) * 3001) + 11197) % 65536)) x 7) / 8 ≤ 2147483647) ∧ (0 < l1 ∧ l1 ≤ 2147483647) ∧ Q ((((kup σ x 7 ((((σ x 7) * 3001) + 11197) % 65536)) x 7) / 8) % l1) (kup σ x 7 ((((σ x 7) * 3001) + 11197) % 65536))) : Run G WX M_X4_draw 0 0 0 [vA G x, vI l1] σ Q := by
  refine Run.of (by decide +kernel) (by show (2 : Nat) ≤ 2; decide) ?_
  show Ex G WX M_X4_draw 0 0 0 0 [(0, vA G x), (1, vI l1)] [] σ Q
  refine R_aload_n e_X4_draw_0.1 0 rfl ?_
  refine R_aload_n e_X4_draw_0.2.1 0 rfl ?_
  refine R_getI 4 7 7 e_X4_draw_0.2.2.1 f_X4_34 (kL_self hx) (fun _ _ => rfl) rfl ?_
  refine R_sipush e_X4_draw_0.2.2.2.1 (by decide) ?_
  refine R_imul e_X4_draw_0.2.2.2.2.1 ?_
  refine R_sipush e_X4_draw_0.2.2.2.2.2.1 (by decide) ?_
  refine R_iadd e_X4_draw_0.2.2.2.2.2.2.1 ?_
  refine R_ldc (65536) k_X4_146 e_X4_draw_0.2.2.2.2.2.2.2.1 ?_
  obtain ⟨q1, h⟩ := h
  refine R_irem e_X4_draw_0.2.2.2.2.2.2.2.2.1 q1 (by decide) ?_
  refine R_putI 4 7 7 WX_ok e_X4_draw_0.2.2.2.2.2.2.2.2.2 f_X4_34 (kL_self hx) rfl rfl rfl ?_
  refine R_aload_n e_X4_draw_1.1 0 rfl ?_
  refine R_getI 4 7 7 e_X4_draw_1.2.1 f_X4_34 (kL_self hx) (fun _ _ => rfl) rfl ?_
  refine R_bipush e_X4_draw_1.2.2.1 (by decide) ?_
  obtain ⟨q2, h⟩ := h
  refine R_idiv e_X4_draw_1.2.2.2.1 q2 (by decide) ?_
  refine R_iload_n e_X4_draw_1.2.2.2.2.1 1 rfl ?_
  obtain ⟨q3, h⟩ := h
  obtain ⟨q4, h⟩ := h
  refine R_irem e_X4_draw_1.2.2.2.2.2.1 q3 q4 ?_
  exact R_ireturn e_X4_draw_1.2.2.2.2.2.2 rfl h
/-! KiteLand$Plans.seekPlanting(I)V -/
theorem e_X5_seekPlanting_0 : decode cX5_seekPlanting 0 = .ok (.iconst 0, 1) ∧ decode cX5_seekPlanting 1 = .ok (.istore_n 2, 1) ∧ decode cX5_seekPlanting 2 = .ok (.iload_n 2, 1) ∧ decode cX5_seekPlanting 3 = .ok (.bipush 63, 2) ∧ decode cX5_seekPlanting 5 = .ok (.if_icmp .ge 16, 3) ∧ decode cX5_seekPlanting 8 = .ok (.aload_n 0, 1) ∧ decode cX5_seekPlanting 9 = .ok (.getfield 18, 3) ∧ decode cX5_seekPlanting 12 = .ok (.iload_n 2, 1) ∧ decode cX5_seekPlanting 13 = .ok (.iconst 0, 1) ∧ decode cX5_seekPlanting 14 = .ok (.iastore, 1) := by decide +kernel
theorem e_X5_seekPlanting_1 : decode cX5_seekPlanting 15 = .ok (.iinc 2 1, 3) ∧ decode cX5_seekPlanting 18 = .ok (.goto (-16), 3) ∧ decode cX5_seekPlanting 21 = .ok (.iconst 0, 1) ∧ decode cX5_seekPlanting 22 = .ok (.istore_n 2, 1) ∧ decode cX5_seekPlanting 23 = .ok (.iload_n 2, 1) ∧ decode cX5_seekPlanting 24 = .ok (.iload_n 1, 1) ∧ decode cX5_seekPlanting 25 = .ok (.if_icmp .ge 38, 3) ∧ decode cX5_seekPlanting 28 = .ok (.aload_n 0, 1) ∧ decode cX5_seekPlanting 29 = .ok (.getfield 64, 3) ∧ decode cX5_seekPlanting 32 = .ok (.aload_n 0, 1) := by decide +kernel
theorem e_X5_seekPlanting_2 : decode cX5_seekPlanting 33 = .ok (.getfield 68, 3) ∧ decode cX5_seekPlanting 36 = .ok (.invokevirtual 72, 3) ∧ decode cX5_seekPlanting 39 = .ok (.pop, 1) ∧ decode cX5_seekPlanting 40 = .ok (.aload_n 0, 1) ∧ decode cX5_seekPlanting 41 = .ok (.getfield 64, 3) ∧ decode cX5_seekPlanting 44 = .ok (.dup, 1) ∧ decode cX5_seekPlanting 45 = .ok (.getfield 78, 3) ∧ decode cX5_seekPlanting 48 = .ok (.iconst 1, 1) ∧ decode cX5_seekPlanting 49 = .ok (.iadd, 1) ∧ decode cX5_seekPlanting 50 = .ok (.putfield 78, 3) := by decide +kernel
theorem e_X5_seekPlanting_3 : decode cX5_seekPlanting 53 = .ok (.aload_n 0, 1) ∧ decode cX5_seekPlanting 54 = .ok (.invokevirtual 81, 3) ∧ decode cX5_seekPlanting 57 = .ok (.iinc 2 1, 3) ∧ decode cX5_seekPlanting 60 = .ok (.goto (-37), 3) ∧ decode cX5_seekPlanting 63 = .ok (.aload_n 0, 1) ∧ decode cX5_seekPlanting 64 = .ok (.iconst (-1), 1) ∧ decode cX5_seekPlanting 65 = .ok (.putfield 15, 3) ∧ decode cX5_seekPlanting 68 = .ok (.iconst 0, 1) ∧ decode cX5_seekPlanting 69 = .ok (.istore_n 2, 1) ∧ decode cX5_seekPlanting 70 = .ok (.iload_n 2, 1) := by decide +kernel
theorem e_X5_seekPlanting_4 : decode cX5_seekPlanting 71 = .ok (.aload_n 0, 1) ∧ decode cX5_seekPlanting 72 = .ok (.getfield 64, 3) ∧ decode cX5_seekPlanting 75 = .ok (.getfield 84, 3) ∧ decode cX5_seekPlanting 78 = .ok (.if_icmp .ge 71, 3) ∧ decode cX5_seekPlanting 81 = .ok (.iconst 0, 1) ∧ decode cX5_seekPlanting 82 = .ok (.istore_n 3, 1) ∧ decode cX5_seekPlanting 83 = .ok (.iload_n 3, 1) ∧ decode cX5_seekPlanting 84 = .ok (.aload_n 0, 1) ∧ decode cX5_seekPlanting 85 = .ok (.getfield 64, 3) ∧ decode cX5_seekPlanting 88 = .ok (.getfield 87, 3) := by decide +kernel
theorem e_X5_seekPlanting_5 : decode cX5_seekPlanting 91 = .ok (.if_icmp .ge 52, 3) ∧ decode cX5_seekPlanting 94 = .ok (.aload_n 0, 1) ∧ decode cX5_seekPlanting 95 = .ok (.getfield 18, 3) ∧ decode cX5_seekPlanting 98 = .ok (.iload_n 2, 1) ∧ decode cX5_seekPlanting 99 = .ok (.bipush 9, 2) ∧ decode cX5_seekPlanting 101 = .ok (.imul, 1) ∧ decode cX5_seekPlanting 102 = .ok (.iload_n 3, 1) ∧ decode cX5_seekPlanting 103 = .ok (.iadd, 1) ∧ decode cX5_seekPlanting 104 = .ok (.iaload, 1) ∧ decode cX5_seekPlanting 105 = .ok (.aload_n 0, 1) := by decide +kernel
theorem e_X5_seekPlanting_6 : decode cX5_seekPlanting 106 = .ok (.getfield 15, 3) ∧ decode cX5_seekPlanting 109 = .ok (.if_icmp .le 28, 3) ∧ decode cX5_seekPlanting 112 = .ok (.aload_n 0, 1) ∧ decode cX5_seekPlanting 113 = .ok (.aload_n 0, 1) ∧ decode cX5_seekPlanting 114 = .ok (.getfield 18, 3) ∧ decode cX5_seekPlanting 117 = .ok (.iload_n 2, 1) ∧ decode cX5_seekPlanting 118 = .ok (.bipush 9, 2) ∧ decode cX5_seekPlanting 120 = .ok (.imul, 1) ∧ decode cX5_seekPlanting 121 = .ok (.iload_n 3, 1) ∧ decode cX5_seekPlanting 122 = .ok (.iadd, 1) := by decide +kernel
theorem e_X5_seekPlanting_7 : decode cX5_seekPlanting 123 = .ok (.iaload, 1) ∧ decode cX5_seekPlanting 124 = .ok (.putfield 15, 3) ∧ decode cX5_seekPlanting 127 = .ok (.aload_n 0, 1) ∧ decode cX5_seekPlanting 128 = .ok (.iload_n 2, 1) ∧ decode cX5_seekPlanting 129 = .ok (.bipush 10, 2) ∧ decode cX5_seekPlanting 131 = .ok (.imul, 1) ∧ decode cX5_seekPlanting 132 = .ok (.iload_n 3, 1) ∧ decode cX5_seekPlanting 133 = .ok (.iadd, 1) ∧ decode cX5_seekPlanting 134 = .ok (.putfield 9, 3) ∧ decode cX5_seekPlanting 137 = .ok (.iinc 3 1, 3) := by decide +kernel
theorem e_X5_seekPlanting_8 : decode cX5_seekPlanting 140 = .ok (.goto (-57), 3) ∧ decode cX5_seekPlanting 143 = .ok (.iinc 2 1, 3) ∧ decode cX5_seekPlanting 146 = .ok (.goto (-76), 3) ∧ decode cX5_seekPlanting 149 = .ok (.return_, 1) := by decide +kernel
abbrev E_X5_seekPlanting_2 (G : Kg) (l1 l2 : Int) (σ : Kmem) (Q : Int → Kmem → Prop) : Prop := Ex G WX M_X5_seekPlanting 4 0 0 2 [(0, vA G 82), (1, vI l1), (2, vI l2)] [] σ Q
abbrev E_X5_seekPlanting_23 (G : Kg) (l1 l2 : Int) (σ : Kmem) (Q : Int → Kmem → Prop) : Prop := Ex G WX M_X5_seekPlanting 4 0 0 23 [(0, vA G 82), (1, vI l1), (2, vI l2)] [] σ Q
abbrev E_X5_seekPlanting_70 (G : Kg) (l2 : Int) (σ : Kmem) (Q : Int → Kmem → Prop) : Prop := Ex G WX M_X5_seekPlanting 4 0 0 70 [(0, vA G 82), (2, vI l2)] [] σ Q
abbrev E_X5_seekPlanting_83 (G : Kg) (l2 l3 : Int) (σ : Kmem) (Q : Int → Kmem → Prop) : Prop := Ex G WX M_X5_seekPlanting 4 0 0 83 [(0, vA G 82), (2, vI l2), (3, vI l3)] [] σ Q
theorem S_X5_seekPlanting {G : Kg} {σ : Kmem} {Q : Int → Kmem → Prop} {l1 : Int}  (h : E_X5_seekPlanting_2 G l1 0 σ Q) : Run G WX M_X5_seekPlanting 4 0 0 [vA G 82, vI l1] σ Q := by
  refine Run.of (by decide +kernel) (by show (2 : Nat) ≤ 4; decide) ?_
  show Ex G WX M_X5_seekPlanting 4 0 0 0 [(0, vA G 82), (1, vI l1)] [] σ Q
  refine R_iconst e_X5_seekPlanting_0.1 ?_
  refine R_istore_n (ls2 := [(2, vI 0), (0, vA G 82), (1, vI l1)]) e_X5_seekPlanting_0.2.1 (by decide) rfl ?_
  refine R_ls (ls2 := [(0, vA G 82), (1, vI l1), (2, vI 0)]) [1, 2, 0] rfl ?_
  exact h
theorem S_X5_seekPlanting_2 {G : Kg} {σ : Kmem} {Q : Int → Kmem → Prop} {l1 l2 : Int}  (h : (rI l2) ∧ ((63 ≤ l2 → E_X5_seekPlanting_23 G l1 0 σ Q) ∧ (l2 < 63 → (0 ≤ l2 ∧ l2 < 63) ∧ E_X5_seekPlanting_2 G l1 (l2 + 1) (kup σ 83 l2 0) Q))) : E_X5_seekPlanting_2 G l1 l2 σ Q := by
  refine R_iload_n e_X5_seekPlanting_0.2.2.1 2 rfl ?_
  refine R_bipush e_X5_seekPlanting_0.2.2.2.1 (by decide) ?_
  obtain ⟨q1, h⟩ := h
  refine R_icmp_ge 21 e_X5_seekPlanting_0.2.2.2.2.1 (by decide) q1 (by decide) (fun q => ?_) (fun q => ?_)
  · replace h := h.1 q
    refine R_iconst e_X5_seekPlanting_1.2.2.1 ?_
    refine R_istore_n (ls2 := [(2, vI 0), (0, vA G 82), (1, vI l1)]) e_X5_seekPlanting_1.2.2.2.1 (by decide) rfl ?_
    refine R_ls (ls2 := [(0, vA G 82), (1, vI l1), (2, vI 0)]) [1, 2, 0] rfl ?_
    exact h
  · replace h := h.2 q
    refine R_aload_n e_X5_seekPlanting_0.2.2.2.2.2.1 0 rfl ?_
    refine R_getA 5 4 83 e_X5_seekPlanting_0.2.2.2.2.2.2.1 f_X5_18 kx_82 (fun _ _ => rfl) rx_82_4 (by decide) ?_
    refine R_iload_n e_X5_seekPlanting_0.2.2.2.2.2.2.2.1 2 rfl ?_
    refine R_iconst e_X5_seekPlanting_0.2.2.2.2.2.2.2.2.1 ?_
    obtain ⟨q2, h⟩ := h
    refine R_iast 63 WX_ok e_X5_seekPlanting_0.2.2.2.2.2.2.2.2.2 kxa_83 q2 ?_
    refine R_iinc (ls2 := [(2, vI (l2 + 1)), (0, vA G 82), (1, vI l1)]) e_X5_seekPlanting_1.1 2 rfl (by decide) rfl ?_
    refine R_goto 2 e_X5_seekPlanting_1.2.1 (by decide) ?_
    refine R_ls (ls2 := [(0, vA G 82), (1, vI l1), (2, vI (l2 + 1))]) [1, 2, 0] rfl ?_
    exact h
theorem S_X5_seekPlanting_23 {G : Kg} {σ : Kmem} {Q : Int → Kmem → Prop} {l1 l2 : Int}  (h : (rI l2) ∧ (rI l1) ∧ ((l1 ≤ l2 → E_X5_seekPlanting_70 G 0 (kup σ 82 3 (-1)) Q) ∧ (l2 < l1 → Run G WX M_X0_loseCrossed 3 0 0 [vA G 31, vA G 58] σ (fun r5 s6 => Run G WX M_X5_countOwnedFields 1 0 0 [vA G 82] (kup s6 31 4 ((s6 31 4) + 1)) (fun r7 s8 => E_X5_seekPlanting_23 G l1 (l2 + 1) s8 Q))))) : E_X5_seekPlanting_23 G l1 l2 σ Q := by
  refine R_iload_n e_X5_seekPlanting_1.2.2.2.2.1 2 rfl ?_
  refine R_iload_n e_X5_seekPlanting_1.2.2.2.2.2.1 1 rfl ?_
  obtain ⟨q3, h⟩ := h
  obtain ⟨q4, h⟩ := h
  refine R_icmp_ge 63 e_X5_seekPlanting_1.2.2.2.2.2.2.1 (by decide) q3 q4 (fun q => ?_) (fun q => ?_)
  · replace h := h.1 q
    refine R_aload_n e_X5_seekPlanting_3.2.2.2.2.1 0 rfl ?_
    refine R_iconst e_X5_seekPlanting_3.2.2.2.2.2.1 ?_
    refine R_putI 5 3 3 WX_ok e_X5_seekPlanting_3.2.2.2.2.2.2.1 f_X5_15 kx_82 rfl rfl rfl ?_
    refine R_iconst e_X5_seekPlanting_3.2.2.2.2.2.2.2.1 ?_
    refine R_istore_n (ls2 := [(2, vI 0), (0, vA G 82), (1, vI l1)]) e_X5_seekPlanting_3.2.2.2.2.2.2.2.2.1 (by decide) rfl ?_
    refine R_ls (ls2 := [(0, vA G 82), (2, vI 0)]) [1, 0] rfl ?_
    exact h
  · replace h := h.2 q
    refine R_aload_n e_X5_seekPlanting_1.2.2.2.2.2.2.2.1 0 rfl ?_
    refine R_getA 5 0 31 e_X5_seekPlanting_1.2.2.2.2.2.2.2.2.1 f_X5_64 kx_82 (fun _ _ => rfl) rx_82_0 (by decide) ?_
    refine R_aload_n e_X5_seekPlanting_1.2.2.2.2.2.2.2.2.2 0 rfl ?_
    refine R_getA 5 1 58 e_X5_seekPlanting_2.1 f_X5_68 kx_82 (fun _ _ => rfl) rx_82_1 (by decide) ?_
    refine R_callV (mc := 0) (ms := 0) (mc' := 0) (ms' := 0) (M' := M_X0_loseCrossed) (d' := 3) (as := [vA G 58]) (st := []) 0 1 e_X5_seekPlanting_2.2.1 (kCVof m_X0_loseCrossed l_X5_72) rfl (by decide) (kC_self isC_31) (by decide) (by decide) rfl rfl (by show (0 : Nat) ≤ 8; decide) ?_
    refine Run.mono h (fun r5 s6 h => ?_)
    refine R_eqs (st2 := [vI r5]) rfl rfl ?_
    refine R_pop e_X5_seekPlanting_2.2.2.1 rfl ?_
    refine R_aload_n e_X5_seekPlanting_2.2.2.2.1 0 rfl ?_
    refine R_getA 5 0 31 e_X5_seekPlanting_2.2.2.2.2.1 f_X5_64 kx_82 (fun _ _ => rfl) rx_82_0 (by decide) ?_
    refine R_dup e_X5_seekPlanting_2.2.2.2.2.2.1 rfl ?_
    refine R_getI 0 4 4 e_X5_seekPlanting_2.2.2.2.2.2.2.1 f_X5_78 (kC_self isC_31) (fun _ _ => rfl) rfl ?_
    refine R_iconst e_X5_seekPlanting_2.2.2.2.2.2.2.2.1 ?_
    refine R_iadd e_X5_seekPlanting_2.2.2.2.2.2.2.2.2.1 ?_
    refine R_putI 0 4 4 WX_ok e_X5_seekPlanting_2.2.2.2.2.2.2.2.2.2 f_X5_78 (kC_self isC_31) rfl rfl rfl ?_
    refine R_aload_n e_X5_seekPlanting_3.1 0 rfl ?_
    refine R_callV (mc := 0) (ms := 0) (mc' := 0) (ms' := 0) (M' := M_X5_countOwnedFields) (d' := 1) (as := []) (st := []) 5 0 e_X5_seekPlanting_3.2.1 (kCVof m_X5_countOwnedFields l_X5_81) rfl (by decide) kx_82 (by decide) (by decide) rfl rfl (by show (0 : Nat) ≤ 8; decide) ?_
    refine Run.mono h (fun r7 s8 h => ?_)
    refine R_eqs (st2 := []) rfl rfl ?_
    refine R_iinc (ls2 := [(2, vI (l2 + 1)), (0, vA G 82), (1, vI l1)]) e_X5_seekPlanting_3.2.2.1 2 rfl (by decide) rfl ?_
    refine R_goto 23 e_X5_seekPlanting_3.2.2.2.1 (by decide) ?_
    refine R_ls (ls2 := [(0, vA G 82), (1, vI l1), (2, vI (l2 + 1))]) [1, 2, 0] rfl ?_
    exact h
theorem S_X5_seekPlanting_70 {G : Kg} {σ : Kmem} {Q : Int → Kmem → Prop} {l1 l2 : Int}  (h : (rI l2) ∧ (rI (σ 31 1)) ∧ ((σ 31 1 ≤ l2 → Q 0 σ) ∧ (l2 < σ 31 1 → E_X5_seekPlanting_83 G l2 0 σ Q))) : E_X5_seekPlanting_70 G l2 σ Q := by
  refine R_iload_n e_X5_seekPlanting_3.2.2.2.2.2.2.2.2.2 1 rfl ?_
  refine R_aload_n e_X5_seekPlanting_4.1 0 rfl ?_
  refine R_getA 5 0 31 e_X5_seekPlanting_4.2.1 f_X5_64 kx_82 (fun _ _ => rfl) rx_82_0 (by decide) ?_
  refine R_getI 0 1 1 e_X5_seekPlanting_4.2.2.1 f_X5_84 (kC_self isC_31) (fun _ _ => rfl) rfl ?_
  obtain ⟨q9, h⟩ := h
  obtain ⟨q10, h⟩ := h
  refine R_icmp_ge 149 e_X5_seekPlanting_4.2.2.2.1 (by decide) q9 q10 (fun q => ?_) (fun q => ?_)
  · replace h := h.1 q
    exact R_return e_X5_seekPlanting_8.2.2.2 rfl h
  · replace h := h.2 q
    refine R_iconst e_X5_seekPlanting_4.2.2.2.2.1 ?_
    refine R_istore_n (ls2 := [(3, vI 0), (0, vA G 82), (2, vI l2)]) e_X5_seekPlanting_4.2.2.2.2.2.1 (by decide) rfl ?_
    refine R_ls (ls2 := [(0, vA G 82), (2, vI l2), (3, vI 0)]) [1, 2, 0] rfl ?_
    exact h
theorem S_X5_seekPlanting_83 {G : Kg} {σ : Kmem} {Q : Int → Kmem → Prop} {l1 l2 l3 : Int}  (h : (rI l3) ∧ (rI (σ 31 0)) ∧ ((σ 31 0 ≤ l3 → E_X5_seekPlanting_70 G (l2 + 1) σ Q) ∧ (l3 < σ 31 0 → (0 ≤ (l2 * 9) + l3 ∧ (l2 * 9) + l3 < 63) ∧ (rI (σ 83 ((l2 * 9) + l3))) ∧ (rI (σ 82 3)) ∧ ((σ 83 ((l2 * 9) + l3) ≤ σ 82 3 → E_X5_seekPlanting_83 G l2 (l3 + 1) σ Q) ∧ (σ 82 3 < σ 83 ((l2 * 9) + l3) → (0 ≤ (l2 * 9) + l3 ∧ (l2 * 9) + l3 < 63) ∧ E_X5_seekPlanting_83 G l2 (l3 + 1) (kup (kup σ 82 3 (σ 83 ((l2 * 9) + l3))) 82 2 ((l2 * 10) + l3)) Q))))) : E_X5_seekPlanting_83 G l2 l3 σ Q := by
  refine R_iload_n e_X5_seekPlanting_4.2.2.2.2.2.2.1 2 rfl ?_
  refine R_aload_n e_X5_seekPlanting_4.2.2.2.2.2.2.2.1 0 rfl ?_
  refine R_getA 5 0 31 e_X5_seekPlanting_4.2.2.2.2.2.2.2.2.1 f_X5_64 kx_82 (fun _ _ => rfl) rx_82_0 (by decide) ?_
  refine R_getI 0 0 0 e_X5_seekPlanting_4.2.2.2.2.2.2.2.2.2 f_X5_87 (kC_self isC_31) (fun _ _ => rfl) rfl ?_
  obtain ⟨q11, h⟩ := h
  obtain ⟨q12, h⟩ := h
  refine R_icmp_ge 143 e_X5_seekPlanting_5.1 (by decide) q11 q12 (fun q => ?_) (fun q => ?_)
  · replace h := h.1 q
    refine R_iinc (ls2 := [(2, vI (l2 + 1)), (0, vA G 82), (3, vI l3)]) e_X5_seekPlanting_8.2.1 1 rfl (by decide) rfl ?_
    refine R_goto 70 e_X5_seekPlanting_8.2.2.1 (by decide) ?_
    refine R_ls (ls2 := [(0, vA G 82), (2, vI (l2 + 1))]) [1, 0] rfl ?_
    exact h
  · replace h := h.2 q
    refine R_aload_n e_X5_seekPlanting_5.2.1 0 rfl ?_
    refine R_getA 5 4 83 e_X5_seekPlanting_5.2.2.1 f_X5_18 kx_82 (fun _ _ => rfl) rx_82_4 (by decide) ?_
    refine R_iload_n e_X5_seekPlanting_5.2.2.2.1 1 rfl ?_
    refine R_bipush e_X5_seekPlanting_5.2.2.2.2.1 (by decide) ?_
    refine R_imul e_X5_seekPlanting_5.2.2.2.2.2.1 ?_
    refine R_iload_n e_X5_seekPlanting_5.2.2.2.2.2.2.1 2 rfl ?_
    refine R_iadd e_X5_seekPlanting_5.2.2.2.2.2.2.2.1 ?_
    obtain ⟨q13, h⟩ := h
    refine R_iald 63 e_X5_seekPlanting_5.2.2.2.2.2.2.2.2.1 kxa_83 q13 ?_
    refine R_aload_n e_X5_seekPlanting_5.2.2.2.2.2.2.2.2.2 0 rfl ?_
    refine R_getI 5 3 3 e_X5_seekPlanting_6.1 f_X5_15 kx_82 (fun _ _ => rfl) rfl ?_
    obtain ⟨q14, h⟩ := h
    obtain ⟨q15, h⟩ := h
    refine R_icmp_le 137 e_X5_seekPlanting_6.2.1 (by decide) q14 q15 (fun q => ?_) (fun q => ?_)
    · replace h := h.1 q
      refine R_iinc (ls2 := [(3, vI (l3 + 1)), (0, vA G 82), (2, vI l2)]) e_X5_seekPlanting_7.2.2.2.2.2.2.2.2.2 2 rfl (by decide) rfl ?_
      refine R_goto 83 e_X5_seekPlanting_8.1 (by decide) ?_
      refine R_ls (ls2 := [(0, vA G 82), (2, vI l2), (3, vI (l3 + 1))]) [1, 2, 0] rfl ?_
      exact h
    · replace h := h.2 q
      refine R_aload_n e_X5_seekPlanting_6.2.2.1 0 rfl ?_
      refine R_aload_n e_X5_seekPlanting_6.2.2.2.1 0 rfl ?_
      refine R_getA 5 4 83 e_X5_seekPlanting_6.2.2.2.2.1 f_X5_18 kx_82 (fun _ _ => rfl) rx_82_4 (by decide) ?_
      refine R_iload_n e_X5_seekPlanting_6.2.2.2.2.2.1 1 rfl ?_
      refine R_bipush e_X5_seekPlanting_6.2.2.2.2.2.2.1 (by decide) ?_
      refine R_imul e_X5_seekPlanting_6.2.2.2.2.2.2.2.1 ?_
      refine R_iload_n e_X5_seekPlanting_6.2.2.2.2.2.2.2.2.1 2 rfl ?_
      refine R_iadd e_X5_seekPlanting_6.2.2.2.2.2.2.2.2.2 ?_
      obtain ⟨q16, h⟩ := h
      refine R_iald 63 e_X5_seekPlanting_7.1 kxa_83 q16 ?_
      refine R_putI 5 3 3 WX_ok e_X5_seekPlanting_7.2.1 f_X5_15 kx_82 rfl rfl rfl ?_
      refine R_aload_n e_X5_seekPlanting_7.2.2.1 0 rfl ?_
      refine R_iload_n e_X5_seekPlanting_7.2.2.2.1 1 rfl ?_
      refine R_bipush e_X5_seekPlanting_7.2.2.2.2.1 (by decide) ?_
      refine R_imul e_X5_seekPlanting_7.2.2.2.2.2.1 ?_
      refine R_iload_n e_X5_seekPlanting_7.2.2.2.2.2.2.1 2 rfl ?_
      refine R_iadd e_X5_seekPlanting_7.2.2.2.2.2.2.2.1 ?_
      refine R_putI 5 2 2 WX_ok e_X5_seekPlanting_7.2.2.2.2.2.2.2.2.1 f_X5_9 kx_82 rfl rfl rfl ?_
      refine R_iinc (ls2 := [(3, vI (l3 + 1)), (0, vA G 82), (2, vI l2)]) e_X5_seekPlanting_7.2.2.2.2.2.2.2.2.2 2 rfl (by decide) rfl ?_
      refine R_goto 83 e_X5_seekPlanting_8.1 (by decide) ?_
      refine R_ls (ls2 := [(0, vA G 82), (2, vI l2), (3, vI (l3 + 1))]) [1, 2, 0] rfl ?_
      exact h
/-! KiteLand$Plans.countOwnedFields()V -/
theorem e_X5_countOwnedFields_0 : decode cX5_countOwnedFields 0 = .ok (.iconst 0, 1) ∧ decode cX5_countOwnedFields 1 = .ok (.istore_n 1, 1) ∧ decode cX5_countOwnedFields 2 = .ok (.iload_n 1, 1) ∧ decode cX5_countOwnedFields 3 = .ok (.aload_n 0, 1) ∧ decode cX5_countOwnedFields 4 = .ok (.getfield 64, 3) ∧ decode cX5_countOwnedFields 7 = .ok (.getfield 84, 3) ∧ decode cX5_countOwnedFields 10 = .ok (.if_icmp .ge 56, 3) ∧ decode cX5_countOwnedFields 13 = .ok (.iconst 0, 1) ∧ decode cX5_countOwnedFields 14 = .ok (.istore_n 2, 1) ∧ decode cX5_countOwnedFields 15 = .ok (.iload_n 2, 1) := by decide +kernel
theorem e_X5_countOwnedFields_1 : decode cX5_countOwnedFields 16 = .ok (.aload_n 0, 1) ∧ decode cX5_countOwnedFields 17 = .ok (.getfield 64, 3) ∧ decode cX5_countOwnedFields 20 = .ok (.getfield 87, 3) ∧ decode cX5_countOwnedFields 23 = .ok (.if_icmp .ge 37, 3) ∧ decode cX5_countOwnedFields 26 = .ok (.aload_n 0, 1) ∧ decode cX5_countOwnedFields 27 = .ok (.getfield 68, 3) ∧ decode cX5_countOwnedFields 30 = .ok (.iload_n 2, 1) ∧ decode cX5_countOwnedFields 31 = .ok (.iload_n 1, 1) ∧ decode cX5_countOwnedFields 32 = .ok (.invokevirtual 90, 3) ∧ decode cX5_countOwnedFields 35 = .ok (.iconst (-1), 1) := by decide +kernel
theorem e_X5_countOwnedFields_2 : decode cX5_countOwnedFields 36 = .ok (.if_icmp .eq 18, 3) ∧ decode cX5_countOwnedFields 39 = .ok (.aload_n 0, 1) ∧ decode cX5_countOwnedFields 40 = .ok (.getfield 18, 3) ∧ decode cX5_countOwnedFields 43 = .ok (.iload_n 1, 1) ∧ decode cX5_countOwnedFields 44 = .ok (.bipush 9, 2) ∧ decode cX5_countOwnedFields 46 = .ok (.imul, 1) ∧ decode cX5_countOwnedFields 47 = .ok (.iload_n 2, 1) ∧ decode cX5_countOwnedFields 48 = .ok (.iadd, 1) ∧ decode cX5_countOwnedFields 49 = .ok (.dup2, 1) ∧ decode cX5_countOwnedFields 50 = .ok (.iaload, 1) := by decide +kernel
theorem e_X5_countOwnedFields_3 : decode cX5_countOwnedFields 51 = .ok (.iconst 1, 1) ∧ decode cX5_countOwnedFields 52 = .ok (.iadd, 1) ∧ decode cX5_countOwnedFields 53 = .ok (.iastore, 1) ∧ decode cX5_countOwnedFields 54 = .ok (.iinc 2 1, 3) ∧ decode cX5_countOwnedFields 57 = .ok (.goto (-42), 3) ∧ decode cX5_countOwnedFields 60 = .ok (.iinc 1 1, 3) ∧ decode cX5_countOwnedFields 63 = .ok (.goto (-61), 3) ∧ decode cX5_countOwnedFields 66 = .ok (.return_, 1) := by decide +kernel
abbrev E_X5_countOwnedFields_2 (G : Kg) (l1 : Int) (σ : Kmem) (Q : Int → Kmem → Prop) : Prop := Ex G WX M_X5_countOwnedFields 1 0 0 2 [(0, vA G 82), (1, vI l1)] [] σ Q
abbrev E_X5_countOwnedFields_15 (G : Kg) (l1 l2 : Int) (σ : Kmem) (Q : Int → Kmem → Prop) : Prop := Ex G WX M_X5_countOwnedFields 1 0 0 15 [(0, vA G 82), (1, vI l1), (2, vI l2)] [] σ Q
theorem S_X5_countOwnedFields {G : Kg} {σ : Kmem} {Q : Int → Kmem → Prop}  (h : E_X5_countOwnedFields_2 G 0 σ Q) : Run G WX M_X5_countOwnedFields 1 0 0 [vA G 82] σ Q := by
  refine Run.of (by decide +kernel) (by show (1 : Nat) ≤ 3; decide) ?_
  show Ex G WX M_X5_countOwnedFields 1 0 0 0 [(0, vA G 82)] [] σ Q
  refine R_iconst e_X5_countOwnedFields_0.1 ?_
  refine R_istore_n (ls2 := [(1, vI 0), (0, vA G 82)]) e_X5_countOwnedFields_0.2.1 (by decide) rfl ?_
  refine R_ls (ls2 := [(0, vA G 82), (1, vI 0)]) [1, 0] rfl ?_
  exact h
theorem S_X5_countOwnedFields_2 {G : Kg} {σ : Kmem} {Q : Int → Kmem → Prop} {l1 : Int}  (h : (rI l1) ∧ (rI (σ 31 1)) ∧ ((σ 31 1 ≤ l1 → Q 0 σ) ∧ (l1 < σ 31 1 → E_X5_countOwnedFields_15 G l1 0 σ Q))) : E_X5_countOwnedFields_2 G l1 σ Q := by
  refine R_iload_n e_X5_countOwnedFields_0.2.2.1 1 rfl ?_
  refine R_aload_n e_X5_countOwnedFields_0.2.2.2.1 0 rfl ?_
  refine R_getA 5 0 31 e_X5_countOwnedFields_0.2.2.2.2.1 f_X5_64 kx_82 (fun _ _ => rfl) rx_82_0 (by decide) ?_
  refine R_getI 0 1 1 e_X5_countOwnedFields_0.2.2.2.2.2.1 f_X5_84 (kC_self isC_31) (fun _ _ => rfl) rfl ?_
  obtain ⟨q1, h⟩ := h
  obtain ⟨q2, h⟩ := h
  refine R_icmp_ge 66 e_X5_countOwnedFields_0.2.2.2.2.2.2.1 (by decide) q1 q2 (fun q => ?_) (fun q => ?_)
  · replace h := h.1 q
    exact R_return e_X5_countOwnedFields_3.2.2.2.2.2.2.2 rfl h
  · replace h := h.2 q
    refine R_iconst e_X5_countOwnedFields_0.2.2.2.2.2.2.2.1 ?_
    refine R_istore_n (ls2 := [(2, vI 0), (0, vA G 82), (1, vI l1)]) e_X5_countOwnedFields_0.2.2.2.2.2.2.2.2.1 (by decide) rfl ?_
    refine R_ls (ls2 := [(0, vA G 82), (1, vI l1), (2, vI 0)]) [1, 2, 0] rfl ?_
    exact h
theorem S_X5_countOwnedFields_15 {G : Kg} {σ : Kmem} {Q : Int → Kmem → Prop} {l1 l2 : Int}  (h : (rI l2) ∧ (rI (σ 31 0)) ∧ ((σ 31 0 ≤ l2 → E_X5_countOwnedFields_2 G (l1 + 1) σ Q) ∧ (l2 < σ 31 0 → Run G WX M_X8_ownerOf 0 0 0 [vA G 58, vI l2, vI l1] σ (fun r5 s6 => (rI r5) ∧ ((r5 = -1 → E_X5_countOwnedFields_15 G l1 (l2 + 1) s6 Q) ∧ (r5 ≠ -1 → (0 ≤ (l1 * 9) + l2 ∧ (l1 * 9) + l2 < 63) ∧ (0 ≤ (l1 * 9) + l2 ∧ (l1 * 9) + l2 < 63) ∧ E_X5_countOwnedFields_15 G l1 (l2 + 1) (kup s6 83 ((l1 * 9) + l2) ((s6 83 ((l1 * 9) + l2)) + 1)) Q)))))) : E_X5_countOwnedFields_15 G l1 l2 σ Q := by
  refine R_iload_n e_X5_countOwnedFields_0.2.2.2.2.2.2.2.2.2 2 rfl ?_
  refine R_aload_n e_X5_countOwnedFields_1.1 0 rfl ?_
  refine R_getA 5 0 31 e_X5_countOwnedFields_1.2.1 f_X5_64 kx_82 (fun _ _ => rfl) rx_82_0 (by decide) ?_
  refine R_getI 0 0 0 e_X5_countOwnedFields_1.2.2.1 f_X5_87 (kC_self isC_31) (fun _ _ => rfl) rfl ?_
  obtain ⟨q3, h⟩ := h
  obtain ⟨q4, h⟩ := h
  refine R_icmp_ge 60 e_X5_countOwnedFields_1.2.2.2.1 (by decide) q3 q4 (fun q => ?_) (fun q => ?_)
  · replace h := h.1 q
    refine R_iinc (ls2 := [(1, vI (l1 + 1)), (0, vA G 82), (2, vI l2)]) e_X5_countOwnedFields_3.2.2.2.2.2.1 1 rfl (by decide) rfl ?_
    refine R_goto 2 e_X5_countOwnedFields_3.2.2.2.2.2.2.1 (by decide) ?_
    refine R_ls (ls2 := [(0, vA G 82), (1, vI (l1 + 1))]) [1, 0] rfl ?_
    exact h
  · replace h := h.2 q
    refine R_aload_n e_X5_countOwnedFields_1.2.2.2.2.1 0 rfl ?_
    refine R_getA 5 1 58 e_X5_countOwnedFields_1.2.2.2.2.2.1 f_X5_68 kx_82 (fun _ _ => rfl) rx_82_1 (by decide) ?_
    refine R_iload_n e_X5_countOwnedFields_1.2.2.2.2.2.2.1 2 rfl ?_
    refine R_iload_n e_X5_countOwnedFields_1.2.2.2.2.2.2.2.1 1 rfl ?_
    refine R_callV (mc := 0) (ms := 0) (mc' := 0) (ms' := 0) (M' := M_X8_ownerOf) (d' := 0) (as := [vI l2, vI l1]) (st := []) 8 2 e_X5_countOwnedFields_1.2.2.2.2.2.2.2.2.1 (kCVof m_X8_ownerOf l_X5_90) rfl (by decide) kx_58 (by decide) (by decide) rfl rfl (by show (0 : Nat) ≤ 8; decide) ?_
    refine Run.mono h (fun r5 s6 h => ?_)
    refine R_eqs (st2 := [vI r5]) rfl rfl ?_
    refine R_iconst e_X5_countOwnedFields_1.2.2.2.2.2.2.2.2.2 ?_
    obtain ⟨q7, h⟩ := h
    refine R_icmp_eq 54 e_X5_countOwnedFields_2.1 (by decide) q7 (by decide) (fun q => ?_) (fun q => ?_)
    · replace h := h.1 q
      refine R_iinc (ls2 := [(2, vI (l2 + 1)), (0, vA G 82), (1, vI l1)]) e_X5_countOwnedFields_3.2.2.2.1 2 rfl (by decide) rfl ?_
      refine R_goto 15 e_X5_countOwnedFields_3.2.2.2.2.1 (by decide) ?_
      refine R_ls (ls2 := [(0, vA G 82), (1, vI l1), (2, vI (l2 + 1))]) [1, 2, 0] rfl ?_
      exact h
    · replace h := h.2 q
      refine R_aload_n e_X5_countOwnedFields_2.2.1 0 rfl ?_
      refine R_getA 5 4 83 e_X5_countOwnedFields_2.2.2.1 f_X5_18 kx_82 (fun _ _ => rfl) rx_82_4 (by decide) ?_
      refine R_iload_n e_X5_countOwnedFields_2.2.2.2.1 1 rfl ?_
      refine R_bipush e_X5_countOwnedFields_2.2.2.2.2.1 (by decide) ?_
      refine R_imul e_X5_countOwnedFields_2.2.2.2.2.2.1 ?_
      refine R_iload_n e_X5_countOwnedFields_2.2.2.2.2.2.2.1 2 rfl ?_
      refine R_iadd e_X5_countOwnedFields_2.2.2.2.2.2.2.2.1 ?_
      refine R_dup2 e_X5_countOwnedFields_2.2.2.2.2.2.2.2.2.1 rfl rfl ?_
      obtain ⟨q8, h⟩ := h
      refine R_iald 63 e_X5_countOwnedFields_2.2.2.2.2.2.2.2.2.2 kxa_83 q8 ?_
      refine R_iconst e_X5_countOwnedFields_3.1 ?_
      refine R_iadd e_X5_countOwnedFields_3.2.1 ?_
      obtain ⟨q9, h⟩ := h
      refine R_iast 63 WX_ok e_X5_countOwnedFields_3.2.2.1 kxa_83 q9 ?_
      refine R_iinc (ls2 := [(2, vI (l2 + 1)), (0, vA G 82), (1, vI l1)]) e_X5_countOwnedFields_3.2.2.2.1 2 rfl (by decide) rfl ?_
      refine R_goto 15 e_X5_countOwnedFields_3.2.2.2.2.1 (by decide) ?_
      refine R_ls (ls2 := [(0, vA G 82), (1, vI l1), (2, vI (l2 + 1))]) [1, 2, 0] rfl ?_
      exact h
/-! KiteLand$Plans.seekFlight(IIII)V -/
theorem e_X5_seekFlight_0 : decode cX5_seekFlight 0 = .ok (.aload_n 0, 1) ∧ decode cX5_seekFlight 1 = .ok (.iload_n 1, 1) ∧ decode cX5_seekFlight 2 = .ok (.putfield 34, 3) ∧ decode cX5_seekFlight 5 = .ok (.aload_n 0, 1) ∧ decode cX5_seekFlight 6 = .ok (.iload_n 2, 1) ∧ decode cX5_seekFlight 7 = .ok (.putfield 37, 3) ∧ decode cX5_seekFlight 10 = .ok (.aload_n 0, 1) ∧ decode cX5_seekFlight 11 = .ok (.iload_n 3, 1) ∧ decode cX5_seekFlight 12 = .ok (.putfield 40, 3) ∧ decode cX5_seekFlight 15 = .ok (.aload_n 0, 1) := by decide +kernel
theorem e_X5_seekFlight_1 : decode cX5_seekFlight 16 = .ok (.iload 4, 2) ∧ decode cX5_seekFlight 18 = .ok (.putfield 25, 3) ∧ decode cX5_seekFlight 21 = .ok (.aload_n 0, 1) ∧ decode cX5_seekFlight 22 = .ok (.iconst (-1), 1) ∧ decode cX5_seekFlight 23 = .ok (.putfield 28, 3) ∧ decode cX5_seekFlight 26 = .ok (.aload_n 0, 1) ∧ decode cX5_seekFlight 27 = .ok (.iconst 0, 1) ∧ decode cX5_seekFlight 28 = .ok (.iconst 0, 1) ∧ decode cX5_seekFlight 29 = .ok (.invokevirtual 96, 3) ∧ decode cX5_seekFlight 32 = .ok (.return_, 1) := by decide +kernel
theorem S_X5_seekFlight {G : Kg} {σ : Kmem} {Q : Int → Kmem → Prop} {l1 l2 l3 l4 : Int}  (h : Run G WX M_X5_tryFlight 20 0 0 [vA G 82, vI 0, vI 0] (kup (kup (kup (kup (kup σ 82 9 l1) 82 10 l2) 82 11 l3) 82 6 l4) 82 7 (-1)) (fun r1 s2 => Q 0 s2)) : Run G WX M_X5_seekFlight 21 0 0 [vA G 82, vI l1, vI l2, vI l3, vI l4] σ Q := by
  refine Run.of (by decide +kernel) (by show (5 : Nat) ≤ 5; decide) ?_
  show Ex G WX M_X5_seekFlight 21 0 0 0 [(0, vA G 82), (1, vI l1), (2, vI l2), (3, vI l3), (4, vI l4)] [] σ Q
  refine R_aload_n e_X5_seekFlight_0.1 0 rfl ?_
  refine R_iload_n e_X5_seekFlight_0.2.1 1 rfl ?_
  refine R_putI 5 9 9 WX_ok e_X5_seekFlight_0.2.2.1 f_X5_34 kx_82 rfl rfl rfl ?_
  refine R_aload_n e_X5_seekFlight_0.2.2.2.1 0 rfl ?_
  refine R_iload_n e_X5_seekFlight_0.2.2.2.2.1 2 rfl ?_
  refine R_putI 5 10 10 WX_ok e_X5_seekFlight_0.2.2.2.2.2.1 f_X5_37 kx_82 rfl rfl rfl ?_
  refine R_aload_n e_X5_seekFlight_0.2.2.2.2.2.2.1 0 rfl ?_
  refine R_iload_n e_X5_seekFlight_0.2.2.2.2.2.2.2.1 3 rfl ?_
  refine R_putI 5 11 11 WX_ok e_X5_seekFlight_0.2.2.2.2.2.2.2.2.1 f_X5_40 kx_82 rfl rfl rfl ?_
  refine R_aload_n e_X5_seekFlight_0.2.2.2.2.2.2.2.2.2 0 rfl ?_
  refine R_iload e_X5_seekFlight_1.1 4 rfl ?_
  refine R_putI 5 6 6 WX_ok e_X5_seekFlight_1.2.1 f_X5_25 kx_82 rfl rfl rfl ?_
  refine R_aload_n e_X5_seekFlight_1.2.2.1 0 rfl ?_
  refine R_iconst e_X5_seekFlight_1.2.2.2.1 ?_
  refine R_putI 5 7 7 WX_ok e_X5_seekFlight_1.2.2.2.2.1 f_X5_28 kx_82 rfl rfl rfl ?_
  refine R_aload_n e_X5_seekFlight_1.2.2.2.2.2.1 0 rfl ?_
  refine R_iconst e_X5_seekFlight_1.2.2.2.2.2.2.1 ?_
  refine R_iconst e_X5_seekFlight_1.2.2.2.2.2.2.2.1 ?_
  refine R_callV (mc := 0) (ms := 0) (mc' := 0) (ms' := 0) (M' := M_X5_tryFlight) (d' := 20) (as := [vI 0, vI 0]) (st := []) 5 2 e_X5_seekFlight_1.2.2.2.2.2.2.2.2.1 (kCVof m_X5_tryFlight l_X5_96) rfl (by decide) kx_82 (by decide) (by decide) rfl rfl (by show (0 : Nat) ≤ 8; decide) ?_
  refine Run.mono h (fun r1 s2 h => ?_)
  refine R_eqs (st2 := []) rfl rfl ?_
  exact R_return e_X5_seekFlight_1.2.2.2.2.2.2.2.2.2 rfl h
/-! KiteLand$Plans.tryFlight(II)V -/
theorem e_X5_tryFlight_0 : decode cX5_tryFlight 0 = .ok (.iload_n 2, 1) ∧ decode cX5_tryFlight 1 = .ok (.aload_n 0, 1) ∧ decode cX5_tryFlight 2 = .ok (.getfield 25, 3) ∧ decode cX5_tryFlight 5 = .ok (.iadd, 1) ∧ decode cX5_tryFlight 6 = .ok (.iload_n 1, 1) ∧ decode cX5_tryFlight 7 = .ok (.isub, 1) ∧ decode cX5_tryFlight 8 = .ok (.aload_n 0, 1) ∧ decode cX5_tryFlight 9 = .ok (.getfield 28, 3) ∧ decode cX5_tryFlight 12 = .ok (.if_icmp .gt 4, 3) ∧ decode cX5_tryFlight 15 = .ok (.return_, 1) := by decide +kernel
theorem e_X5_tryFlight_1 : decode cX5_tryFlight 16 = .ok (.iload_n 1, 1) ∧ decode cX5_tryFlight 17 = .ok (.aload_n 0, 1) ∧ decode cX5_tryFlight 18 = .ok (.getfield 25, 3) ∧ decode cX5_tryFlight 21 = .ok (.if_icmp .ge 8, 3) ∧ decode cX5_tryFlight 24 = .ok (.iload_n 1, 1) ∧ decode cX5_tryFlight 25 = .ok (.iconst 5, 1) ∧ decode cX5_tryFlight 26 = .ok (.if_icmp .lt 23, 3) ∧ decode cX5_tryFlight 29 = .ok (.aload_n 0, 1) ∧ decode cX5_tryFlight 30 = .ok (.iload_n 2, 1) ∧ decode cX5_tryFlight 31 = .ok (.putfield 28, 3) := by decide +kernel
theorem e_X5_tryFlight_2 : decode cX5_tryFlight 34 = .ok (.aload_n 0, 1) ∧ decode cX5_tryFlight 35 = .ok (.getfield 31, 3) ∧ decode cX5_tryFlight 38 = .ok (.iconst 0, 1) ∧ decode cX5_tryFlight 39 = .ok (.aload_n 0, 1) ∧ decode cX5_tryFlight 40 = .ok (.getfield 22, 3) ∧ decode cX5_tryFlight 43 = .ok (.iconst 0, 1) ∧ decode cX5_tryFlight 44 = .ok (.iload_n 1, 1) ∧ decode cX5_tryFlight 45 = .ok (.invokestatic 100, 3) ∧ decode cX5_tryFlight 48 = .ok (.return_, 1) ∧ decode cX5_tryFlight 49 = .ok (.aload_n 0, 1) := by decide +kernel
theorem e_X5_tryFlight_3 : decode cX5_tryFlight 50 = .ok (.getfield 64, 3) ∧ decode cX5_tryFlight 53 = .ok (.getfield 106, 3) ∧ decode cX5_tryFlight 56 = .ok (.aload_n 0, 1) ∧ decode cX5_tryFlight 57 = .ok (.getfield 34, 3) ∧ decode cX5_tryFlight 60 = .ok (.aaload, 1) ∧ decode cX5_tryFlight 61 = .ok (.astore_n 3, 1) ∧ decode cX5_tryFlight 62 = .ok (.aload_n 3, 1) ∧ decode cX5_tryFlight 63 = .ok (.getfield 110, 3) ∧ decode cX5_tryFlight 66 = .ok (.istore 4, 2) ∧ decode cX5_tryFlight 68 = .ok (.aload_n 3, 1) := by decide +kernel
theorem e_X5_tryFlight_4 : decode cX5_tryFlight 69 = .ok (.getfield 115, 3) ∧ decode cX5_tryFlight 72 = .ok (.istore 5, 2) ∧ decode cX5_tryFlight 74 = .ok (.aload_n 0, 1) ∧ decode cX5_tryFlight 75 = .ok (.getfield 64, 3) ∧ decode cX5_tryFlight 78 = .ok (.invokevirtual 118, 3) ∧ decode cX5_tryFlight 81 = .ok (.istore 6, 2) ∧ decode cX5_tryFlight 83 = .ok (.iconst 0, 1) ∧ decode cX5_tryFlight 84 = .ok (.istore 7, 2) ∧ decode cX5_tryFlight 86 = .ok (.iload 7, 2) ∧ decode cX5_tryFlight 88 = .ok (.iconst 5, 1) := by decide +kernel
theorem e_X5_tryFlight_5 : decode cX5_tryFlight 89 = .ok (.if_icmp .ge 153, 3) ∧ decode cX5_tryFlight 92 = .ok (.aload_n 0, 1) ∧ decode cX5_tryFlight 93 = .ok (.getfield 64, 3) ∧ decode cX5_tryFlight 96 = .ok (.aload_n 0, 1) ∧ decode cX5_tryFlight 97 = .ok (.getfield 34, 3) ∧ decode cX5_tryFlight 100 = .ok (.iload 7, 2) ∧ decode cX5_tryFlight 102 = .ok (.invokevirtual 122, 3) ∧ decode cX5_tryFlight 105 = .ok (.ifCond .eq 131, 3) ∧ decode cX5_tryFlight 108 = .ok (.aload_n 0, 1) ∧ decode cX5_tryFlight 109 = .ok (.getfield 31, 3) := by decide +kernel
theorem e_X5_tryFlight_6 : decode cX5_tryFlight 112 = .ok (.iload_n 1, 1) ∧ decode cX5_tryFlight 113 = .ok (.iload 7, 2) ∧ decode cX5_tryFlight 115 = .ok (.iastore, 1) ∧ decode cX5_tryFlight 116 = .ok (.aload_n 0, 1) ∧ decode cX5_tryFlight 117 = .ok (.getfield 64, 3) ∧ decode cX5_tryFlight 120 = .ok (.aload_n 0, 1) ∧ decode cX5_tryFlight 121 = .ok (.getfield 34, 3) ∧ decode cX5_tryFlight 124 = .ok (.iload 7, 2) ∧ decode cX5_tryFlight 126 = .ok (.invokevirtual 126, 3) ∧ decode cX5_tryFlight 129 = .ok (.aload_n 0, 1) := by decide +kernel
theorem e_X5_tryFlight_7 : decode cX5_tryFlight 130 = .ok (.getfield 64, 3) ∧ decode cX5_tryFlight 133 = .ok (.aload_n 0, 1) ∧ decode cX5_tryFlight 134 = .ok (.getfield 68, 3) ∧ decode cX5_tryFlight 137 = .ok (.invokevirtual 72, 3) ∧ decode cX5_tryFlight 140 = .ok (.pop, 1) ∧ decode cX5_tryFlight 141 = .ok (.aload_n 0, 1) ∧ decode cX5_tryFlight 142 = .ok (.getfield 68, 3) ∧ decode cX5_tryFlight 145 = .ok (.aload_n 0, 1) ∧ decode cX5_tryFlight 146 = .ok (.getfield 37, 3) ∧ decode cX5_tryFlight 149 = .ok (.aload_n 0, 1) := by decide +kernel
theorem e_X5_tryFlight_8 : decode cX5_tryFlight 150 = .ok (.getfield 40, 3) ∧ decode cX5_tryFlight 153 = .ok (.invokevirtual 90, 3) ∧ decode cX5_tryFlight 156 = .ok (.aload_n 0, 1) ∧ decode cX5_tryFlight 157 = .ok (.getfield 34, 3) ∧ decode cX5_tryFlight 160 = .ok (.if_icmp .ne 7, 3) ∧ decode cX5_tryFlight 163 = .ok (.iconst 1, 1) ∧ decode cX5_tryFlight 164 = .ok (.goto 4, 3) ∧ decode cX5_tryFlight 167 = .ok (.iconst 0, 1) ∧ decode cX5_tryFlight 168 = .ok (.istore 8, 2) ∧ decode cX5_tryFlight 170 = .ok (.aload_n 0, 1) := by decide +kernel
theorem e_X5_tryFlight_9 : decode cX5_tryFlight 171 = .ok (.getfield 64, 3) ∧ decode cX5_tryFlight 174 = .ok (.dup, 1) ∧ decode cX5_tryFlight 175 = .ok (.getfield 78, 3) ∧ decode cX5_tryFlight 178 = .ok (.iconst 1, 1) ∧ decode cX5_tryFlight 179 = .ok (.iadd, 1) ∧ decode cX5_tryFlight 180 = .ok (.putfield 78, 3) ∧ decode cX5_tryFlight 183 = .ok (.aload_n 0, 1) ∧ decode cX5_tryFlight 184 = .ok (.iload_n 1, 1) ∧ decode cX5_tryFlight 185 = .ok (.iconst 1, 1) ∧ decode cX5_tryFlight 186 = .ok (.iadd, 1) := by decide +kernel
theorem e_X5_tryFlight_10 : decode cX5_tryFlight 187 = .ok (.iload 8, 2) ∧ decode cX5_tryFlight 189 = .ok (.ifCond .eq 9, 3) ∧ decode cX5_tryFlight 192 = .ok (.iload_n 2, 1) ∧ decode cX5_tryFlight 193 = .ok (.iconst 1, 1) ∧ decode cX5_tryFlight 194 = .ok (.iadd, 1) ∧ decode cX5_tryFlight 195 = .ok (.goto 4, 3) ∧ decode cX5_tryFlight 198 = .ok (.iload_n 2, 1) ∧ decode cX5_tryFlight 199 = .ok (.invokevirtual 96, 3) ∧ decode cX5_tryFlight 202 = .ok (.aload_n 0, 1) ∧ decode cX5_tryFlight 203 = .ok (.getfield 64, 3) := by decide +kernel
theorem e_X5_tryFlight_11 : decode cX5_tryFlight 206 = .ok (.dup, 1) ∧ decode cX5_tryFlight 207 = .ok (.getfield 78, 3) ∧ decode cX5_tryFlight 210 = .ok (.iconst 1, 1) ∧ decode cX5_tryFlight 211 = .ok (.isub, 1) ∧ decode cX5_tryFlight 212 = .ok (.putfield 78, 3) ∧ decode cX5_tryFlight 215 = .ok (.aload_n 0, 1) ∧ decode cX5_tryFlight 216 = .ok (.getfield 64, 3) ∧ decode cX5_tryFlight 219 = .ok (.iload 6, 2) ∧ decode cX5_tryFlight 221 = .ok (.invokevirtual 129, 3) ∧ decode cX5_tryFlight 224 = .ok (.aload_n 3, 1) := by decide +kernel
theorem e_X5_tryFlight_12 : decode cX5_tryFlight 225 = .ok (.iload 4, 2) ∧ decode cX5_tryFlight 227 = .ok (.putfield 110, 3) ∧ decode cX5_tryFlight 230 = .ok (.aload_n 3, 1) ∧ decode cX5_tryFlight 231 = .ok (.iload 5, 2) ∧ decode cX5_tryFlight 233 = .ok (.putfield 115, 3) ∧ decode cX5_tryFlight 236 = .ok (.iinc 7 1, 3) ∧ decode cX5_tryFlight 239 = .ok (.goto (-153), 3) ∧ decode cX5_tryFlight 242 = .ok (.return_, 1) := by decide +kernel
abbrev E_X5_tryFlight_86 (G : Kg) (d : Nat) (l1 l2 l3 l4 l5 l6 l7 : Int) (σ : Kmem) (Q : Int → Kmem → Prop) : Prop := Ex G WX M_X5_tryFlight d 0 0 86 [(0, vA G 82), (1, vI l1), (2, vI l2), (3, vA G l3), (4, vI l4), (5, vI l5), (6, vI l6), (7, vI l7)] [] σ Q
abbrev E_X5_tryFlight_168 (G : Kg) (d : Nat) (l1 l2 l3 l4 l5 l6 l7 p0 : Int) (σ : Kmem) (Q : Int → Kmem → Prop) : Prop := Ex G WX M_X5_tryFlight d 0 0 168 [(0, vA G 82), (1, vI l1), (2, vI l2), (3, vA G l3), (4, vI l4), (5, vI l5), (6, vI l6), (7, vI l7)] [vI p0] σ Q
theorem S_X5_tryFlight {G : Kg} {σ : Kmem} {Q : Int → Kmem → Prop} {d dr : Nat} (hd : 12 ≤ d) (hdr : dr + 1 ≤ d) {l1 l2 : Int}  (h : (rI ((l2 + (σ 82 6)) - l1)) ∧ (rI (σ 82 7)) ∧ ((σ 82 7 < (l2 + (σ 82 6)) - l1 → (rI l1) ∧ (rI (σ 82 6)) ∧ ((σ 82 6 ≤ l1 → (((0 : Int) ≤ 0 ∧ (0 : Int) ≤ 0 ∧ (0 : Int) ≤ l1) ∧ (0 : Int) + l1 ≤ 5 ∧ (0 : Int) + l1 ≤ 5) ∧ Q 0 (kcpy (kup σ 82 7 l2) 85 0 84 0 l1)) ∧ (l1 < σ 82 6 → ((l1 < 5 → (0 ≤ σ 82 9 ∧ σ 82 9 < 6) ∧ Run G WX M_X0_cutSet 0 0 0 [vA G 31] σ (fun r7 s8 => E_X5_tryFlight_86 G d l1 l2 (31 + 6 + (σ 82 9)) (σ (31 + 6 + (σ 82 9)) 1) (σ (31 + 6 + (σ 82 9)) 2) r7 0 s8 Q)) ∧ (5 ≤ l1 → (((0 : Int) ≤ 0 ∧ (0 : Int) ≤ 0 ∧ (0 : Int) ≤ l1) ∧ (0 : Int) + l1 ≤ 5 ∧ (0 : Int) + l1 ≤ 5) ∧ Q 0 (kcpy (kup σ 82 7 l2) 85 0 84 0 l1)))))) ∧ ((l2 + (σ 82 6)) - l1 ≤ σ 82 7 → Q 0 σ))) : Run G WX M_X5_tryFlight d 0 0 [vA G 82, vI l1, vI l2] σ Q := by
  refine Run.of (by decide +kernel) (by show (3 : Nat) ≤ 9; decide) ?_
  show Ex G WX M_X5_tryFlight d 0 0 0 [(0, vA G 82), (1, vI l1), (2, vI l2)] [] σ Q
  refine R_iload_n e_X5_tryFlight_0.1 2 rfl ?_
  refine R_aload_n e_X5_tryFlight_0.2.1 0 rfl ?_
  refine R_getI 5 6 6 e_X5_tryFlight_0.2.2.1 f_X5_25 kx_82 (fun _ _ => rfl) rfl ?_
  refine R_iadd e_X5_tryFlight_0.2.2.2.1 ?_
  refine R_iload_n e_X5_tryFlight_0.2.2.2.2.1 1 rfl ?_
  refine R_isub e_X5_tryFlight_0.2.2.2.2.2.1 ?_
  refine R_aload_n e_X5_tryFlight_0.2.2.2.2.2.2.1 0 rfl ?_
  refine R_getI 5 7 7 e_X5_tryFlight_0.2.2.2.2.2.2.2.1 f_X5_28 kx_82 (fun _ _ => rfl) rfl ?_
  obtain ⟨q1, h⟩ := h
  obtain ⟨q2, h⟩ := h
  refine R_icmp_gt 16 e_X5_tryFlight_0.2.2.2.2.2.2.2.2.1 (by decide) q1 q2 (fun q => ?_) (fun q => ?_)
  · replace h := h.1 q
    refine R_iload_n e_X5_tryFlight_1.1 1 rfl ?_
    refine R_aload_n e_X5_tryFlight_1.2.1 0 rfl ?_
    refine R_getI 5 6 6 e_X5_tryFlight_1.2.2.1 f_X5_25 kx_82 (fun _ _ => rfl) rfl ?_
    obtain ⟨q3, h⟩ := h
    obtain ⟨q4, h⟩ := h
    refine R_icmp_ge 29 e_X5_tryFlight_1.2.2.2.1 (by decide) q3 q4 (fun q => ?_) (fun q => ?_)
    · replace h := h.1 q
      refine R_aload_n e_X5_tryFlight_1.2.2.2.2.2.2.2.1 0 rfl ?_
      refine R_iload_n e_X5_tryFlight_1.2.2.2.2.2.2.2.2.1 2 rfl ?_
      refine R_putI 5 7 7 WX_ok e_X5_tryFlight_1.2.2.2.2.2.2.2.2.2 f_X5_28 kx_82 rfl rfl rfl ?_
      refine R_aload_n e_X5_tryFlight_2.1 0 rfl ?_
      refine R_getA 5 8 85 e_X5_tryFlight_2.2.1 f_X5_31 kx_82 (fun _ _ => rfl) rx_82_8 (by decide) ?_
      refine R_iconst e_X5_tryFlight_2.2.2.1 ?_
      refine R_aload_n e_X5_tryFlight_2.2.2.2.1 0 rfl ?_
      refine R_getA 5 5 84 e_X5_tryFlight_2.2.2.2.2.1 f_X5_22 kx_82 (fun _ _ => rfl) rx_82_5 (by decide) ?_
      refine R_iconst e_X5_tryFlight_2.2.2.2.2.2.1 ?_
      refine R_iload_n e_X5_tryFlight_2.2.2.2.2.2.2.1 1 rfl ?_
      obtain ⟨q5, h⟩ := h
      refine R_copyI 5 5 rfl WX_rd e_X5_tryFlight_2.2.2.2.2.2.2.2.1 kxa_85 kxa_84 q5 l_cp_X5_100 (by omega) (by show (0 : Nat) ≤ 8; decide) ?_
      exact R_return e_X5_tryFlight_2.2.2.2.2.2.2.2.2.1 rfl h
    · replace h := h.2 q
      refine R_iload_n e_X5_tryFlight_1.2.2.2.2.1 1 rfl ?_
      refine R_iconst e_X5_tryFlight_1.2.2.2.2.2.1 ?_
      refine R_icmp_lt 49 e_X5_tryFlight_1.2.2.2.2.2.2.1 (by decide) q3 (by decide) (fun q => ?_) (fun q => ?_)
      · replace h := h.1 q
        refine R_aload_n e_X5_tryFlight_2.2.2.2.2.2.2.2.2.2 0 rfl ?_
        refine R_getA 5 0 31 e_X5_tryFlight_3.1 f_X5_64 kx_82 (fun _ _ => rfl) rx_82_0 (by decide) ?_
        refine R_getA 0 10 (31 + 3) e_X5_tryFlight_3.2.1 f_X5_106 (kC_self isC_31) (fun _ _ => rfl) (kC_r10 isC_31) (kC_n3 isC_31) ?_
        refine R_aload_n e_X5_tryFlight_3.2.2.1 0 rfl ?_
        refine R_getI 5 9 9 e_X5_tryFlight_3.2.2.2.1 f_X5_34 kx_82 (fun _ _ => rfl) rfl ?_
        obtain ⟨q6, h⟩ := h
        refine R_aald 27 6 (31 + 6 + (σ 82 9)) e_X5_tryFlight_3.2.2.2.2.1 (by decide) (kC_kites isC_31) q6 (kC_kiteAt isC_31 q6) (kC_kiteN isC_31 q6) ?_
        refine R_astore_n (ls2 := [(3, vA G (31 + 6 + (σ 82 9))), (0, vA G 82), (1, vI l1), (2, vI l2)]) e_X5_tryFlight_3.2.2.2.2.2.1 (by decide) rfl ?_
        refine R_aload_n e_X5_tryFlight_3.2.2.2.2.2.2.1 0 rfl ?_
        refine R_getI 3 1 1 e_X5_tryFlight_3.2.2.2.2.2.2.2.1 f_X5_110 (kC_kite isC_31 q6) (fun _ _ => rfl) rfl ?_
        refine R_istore (ls2 := [(4, vI (σ (31 + 6 + (σ 82 9)) 1)), (3, vA G (31 + 6 + (σ 82 9))), (0, vA G 82), (1, vI l1), (2, vI l2)]) e_X5_tryFlight_3.2.2.2.2.2.2.2.2.1 (by decide) rfl ?_
        refine R_aload_n e_X5_tryFlight_3.2.2.2.2.2.2.2.2.2 1 rfl ?_
        refine R_getI 3 2 2 e_X5_tryFlight_4.1 f_X5_115 (kC_kite isC_31 q6) (fun _ _ => rfl) rfl ?_
        refine R_istore (ls2 := [(5, vI (σ (31 + 6 + (σ 82 9)) 2)), (4, vI (σ (31 + 6 + (σ 82 9)) 1)), (3, vA G (31 + 6 + (σ 82 9))), (0, vA G 82), (1, vI l1), (2, vI l2)]) e_X5_tryFlight_4.2.1 (by decide) rfl ?_
        refine R_aload_n e_X5_tryFlight_4.2.2.1 3 rfl ?_
        refine R_getA 5 0 31 e_X5_tryFlight_4.2.2.2.1 f_X5_64 kx_82 (fun _ _ => rfl) rx_82_0 (by decide) ?_
        refine R_callV (mc := 0) (ms := 0) (mc' := 0) (ms' := 0) (M' := M_X0_cutSet) (d' := 0) (as := []) (st := []) 0 0 e_X5_tryFlight_4.2.2.2.2.1 (kCVof m_X0_cutSet l_X5_118) rfl (by decide) (kC_self isC_31) (by omega) (by decide) rfl rfl (by show (0 : Nat) ≤ 8; decide) ?_
        refine Run.mono h (fun r7 s8 h => ?_)
        refine R_eqs (st2 := [vI r7]) rfl rfl ?_
        refine R_istore (ls2 := [(6, vI r7), (5, vI (σ (31 + 6 + (σ 82 9)) 2)), (4, vI (σ (31 + 6 + (σ 82 9)) 1)), (3, vA G (31 + 6 + (σ 82 9))), (0, vA G 82), (1, vI l1), (2, vI l2)]) e_X5_tryFlight_4.2.2.2.2.2.1 (by decide) rfl ?_
        refine R_iconst e_X5_tryFlight_4.2.2.2.2.2.2.1 ?_
        refine R_istore (ls2 := [(7, vI 0), (6, vI r7), (5, vI (σ (31 + 6 + (σ 82 9)) 2)), (4, vI (σ (31 + 6 + (σ 82 9)) 1)), (3, vA G (31 + 6 + (σ 82 9))), (0, vA G 82), (1, vI l1), (2, vI l2)]) e_X5_tryFlight_4.2.2.2.2.2.2.2.1 (by decide) rfl ?_
        refine R_ls (ls2 := [(0, vA G 82), (1, vI l1), (2, vI l2), (3, vA G (31 + 6 + (σ 82 9))), (4, vI (σ (31 + 6 + (σ 82 9)) 1)), (5, vI (σ (31 + 6 + (σ 82 9)) 2)), (6, vI r7), (7, vI 0)]) [5, 6, 7, 4, 3, 2, 1, 0] rfl ?_
        exact h
      · replace h := h.2 q
        refine R_aload_n e_X5_tryFlight_1.2.2.2.2.2.2.2.1 0 rfl ?_
        refine R_iload_n e_X5_tryFlight_1.2.2.2.2.2.2.2.2.1 2 rfl ?_
        refine R_putI 5 7 7 WX_ok e_X5_tryFlight_1.2.2.2.2.2.2.2.2.2 f_X5_28 kx_82 rfl rfl rfl ?_
        refine R_aload_n e_X5_tryFlight_2.1 0 rfl ?_
        refine R_getA 5 8 85 e_X5_tryFlight_2.2.1 f_X5_31 kx_82 (fun _ _ => rfl) rx_82_8 (by decide) ?_
        refine R_iconst e_X5_tryFlight_2.2.2.1 ?_
        refine R_aload_n e_X5_tryFlight_2.2.2.2.1 0 rfl ?_
        refine R_getA 5 5 84 e_X5_tryFlight_2.2.2.2.2.1 f_X5_22 kx_82 (fun _ _ => rfl) rx_82_5 (by decide) ?_
        refine R_iconst e_X5_tryFlight_2.2.2.2.2.2.1 ?_
        refine R_iload_n e_X5_tryFlight_2.2.2.2.2.2.2.1 1 rfl ?_
        obtain ⟨q9, h⟩ := h
        refine R_copyI 5 5 rfl WX_rd e_X5_tryFlight_2.2.2.2.2.2.2.2.1 kxa_85 kxa_84 q9 l_cp_X5_100 (by omega) (by show (0 : Nat) ≤ 8; decide) ?_
        exact R_return e_X5_tryFlight_2.2.2.2.2.2.2.2.2.1 rfl h
  · replace h := h.2 q
    exact R_return e_X5_tryFlight_0.2.2.2.2.2.2.2.2.2 rfl h
theorem S_X5_tryFlight_86 {G : Kg} {σ : Kmem} {Q : Int → Kmem → Prop} {d dr : Nat} (hd : 12 ≤ d) (hdr : dr + 1 ≤ d) {l1 l2 l3 l4 l5 l6 l7 : Int}  (hl3 : kIsX l3 3) (h : (rI l7) ∧ ((5 ≤ l7 → Q 0 σ) ∧ (l7 < 5 → Run G WX M_X0_mayStep 2 0 0 [vA G 31, vI (σ 82 9), vI l7] σ (fun r11 s12 => (rI r11) ∧ ((r11 = 0 → E_X5_tryFlight_86 G d l1 l2 l3 l4 l5 l6 (l7 + 1) s12 Q) ∧ (r11 ≠ 0 → (0 ≤ l1 ∧ l1 < 5) ∧ Run G WX M_X0_stepHand 0 0 0 [vA G 31, vI ((kup s12 85 l1 l7) 82 9), vI l7] (kup s12 85 l1 l7) (fun r15 s16 => Run G WX M_X0_loseCrossed 3 0 0 [vA G 31, vA G 58] s16 (fun r17 s18 => Run G WX M_X8_ownerOf 0 0 0 [vA G 58, vI (s18 82 10), vI (s18 82 11)] s18 (fun r19 s20 => (rI r19) ∧ (rI (s20 82 9)) ∧ ((r19 ≠ s20 82 9 → E_X5_tryFlight_168 G d l1 l2 l3 l4 l5 l6 l7 0 s20 Q) ∧ (r19 = s20 82 9 → E_X5_tryFlight_168 G d l1 l2 l3 l4 l5 l6 l7 1 s20 Q))))))))))) : E_X5_tryFlight_86 G d l1 l2 l3 l4 l5 l6 l7 σ Q := by
  refine R_iload e_X5_tryFlight_4.2.2.2.2.2.2.2.2.1 7 rfl ?_
  refine R_iconst e_X5_tryFlight_4.2.2.2.2.2.2.2.2.2 ?_
  obtain ⟨q10, h⟩ := h
  refine R_icmp_ge 242 e_X5_tryFlight_5.1 (by decide) q10 (by decide) (fun q => ?_) (fun q => ?_)
  · replace h := h.1 q
    exact R_return e_X5_tryFlight_12.2.2.2.2.2.2.2 rfl h
  · replace h := h.2 q
    refine R_aload_n e_X5_tryFlight_5.2.1 0 rfl ?_
    refine R_getA 5 0 31 e_X5_tryFlight_5.2.2.1 f_X5_64 kx_82 (fun _ _ => rfl) rx_82_0 (by decide) ?_
    refine R_aload_n e_X5_tryFlight_5.2.2.2.1 0 rfl ?_
    refine R_getI 5 9 9 e_X5_tryFlight_5.2.2.2.2.1 f_X5_34 kx_82 (fun _ _ => rfl) rfl ?_
    refine R_iload e_X5_tryFlight_5.2.2.2.2.2.1 7 rfl ?_
    refine R_callV (mc := 0) (ms := 0) (mc' := 0) (ms' := 0) (M' := M_X0_mayStep) (d' := 2) (as := [vI (σ 82 9), vI l7]) (st := []) 0 2 e_X5_tryFlight_5.2.2.2.2.2.2.1 (kCVof m_X0_mayStep l_X5_122) rfl (by decide) (kC_self isC_31) (by omega) (by decide) rfl rfl (by show (0 : Nat) ≤ 8; decide) ?_
    refine Run.mono h (fun r11 s12 h => ?_)
    refine R_eqs (st2 := [vI r11]) rfl rfl ?_
    obtain ⟨q13, h⟩ := h
    refine R_if_eq 236 e_X5_tryFlight_5.2.2.2.2.2.2.2.1 (by decide) q13  (fun q => ?_) (fun q => ?_)
    · replace h := h.1 q
      refine R_iinc (ls2 := [(7, vI (l7 + 1)), (0, vA G 82), (1, vI l1), (2, vI l2), (3, vA G l3), (4, vI l4), (5, vI l5), (6, vI l6)]) e_X5_tryFlight_12.2.2.2.2.2.1 7 rfl (by decide) rfl ?_
      refine R_goto 86 e_X5_tryFlight_12.2.2.2.2.2.2.1 (by decide) ?_
      refine R_ls (ls2 := [(0, vA G 82), (1, vI l1), (2, vI l2), (3, vA G l3), (4, vI l4), (5, vI l5), (6, vI l6), (7, vI (l7 + 1))]) [1, 2, 3, 4, 5, 6, 7, 0] rfl ?_
      exact h
    · replace h := h.2 q
      refine R_aload_n e_X5_tryFlight_5.2.2.2.2.2.2.2.2.1 0 rfl ?_
      refine R_getA 5 8 85 e_X5_tryFlight_5.2.2.2.2.2.2.2.2.2 f_X5_31 kx_82 (fun _ _ => rfl) rx_82_8 (by decide) ?_
      refine R_iload_n e_X5_tryFlight_6.1 1 rfl ?_
      refine R_iload e_X5_tryFlight_6.2.1 7 rfl ?_
      obtain ⟨q14, h⟩ := h
      refine R_iast 5 WX_ok e_X5_tryFlight_6.2.2.1 kxa_85 q14 ?_
      refine R_aload_n e_X5_tryFlight_6.2.2.2.1 0 rfl ?_
      refine R_getA 5 0 31 e_X5_tryFlight_6.2.2.2.2.1 f_X5_64 kx_82 (fun _ _ => rfl) rx_82_0 (by decide) ?_
      refine R_aload_n e_X5_tryFlight_6.2.2.2.2.2.1 0 rfl ?_
      refine R_getI 5 9 9 e_X5_tryFlight_6.2.2.2.2.2.2.1 f_X5_34 kx_82 (fun _ _ => rfl) rfl ?_
      refine R_iload e_X5_tryFlight_6.2.2.2.2.2.2.2.1 7 rfl ?_
      refine R_callV (mc := 0) (ms := 0) (mc' := 0) (ms' := 0) (M' := M_X0_stepHand) (d' := 0) (as := [vI ((kup s12 85 l1 l7) 82 9), vI l7]) (st := []) 0 2 e_X5_tryFlight_6.2.2.2.2.2.2.2.2.1 (kCVof m_X0_stepHand l_X5_126) rfl (by decide) (kC_self isC_31) (by omega) (by decide) rfl rfl (by show (0 : Nat) ≤ 8; decide) ?_
      refine Run.mono h (fun r15 s16 h => ?_)
      refine R_eqs (st2 := []) rfl rfl ?_
      refine R_aload_n e_X5_tryFlight_6.2.2.2.2.2.2.2.2.2 0 rfl ?_
      refine R_getA 5 0 31 e_X5_tryFlight_7.1 f_X5_64 kx_82 (fun _ _ => rfl) rx_82_0 (by decide) ?_
      refine R_aload_n e_X5_tryFlight_7.2.1 0 rfl ?_
      refine R_getA 5 1 58 e_X5_tryFlight_7.2.2.1 f_X5_68 kx_82 (fun _ _ => rfl) rx_82_1 (by decide) ?_
      refine R_callV (mc := 0) (ms := 0) (mc' := 0) (ms' := 0) (M' := M_X0_loseCrossed) (d' := 3) (as := [vA G 58]) (st := []) 0 1 e_X5_tryFlight_7.2.2.2.1 (kCVof m_X0_loseCrossed l_X5_72) rfl (by decide) (kC_self isC_31) (by omega) (by decide) rfl rfl (by show (0 : Nat) ≤ 8; decide) ?_
      refine Run.mono h (fun r17 s18 h => ?_)
      refine R_eqs (st2 := [vI r17]) rfl rfl ?_
      refine R_pop e_X5_tryFlight_7.2.2.2.2.1 rfl ?_
      refine R_aload_n e_X5_tryFlight_7.2.2.2.2.2.1 0 rfl ?_
      refine R_getA 5 1 58 e_X5_tryFlight_7.2.2.2.2.2.2.1 f_X5_68 kx_82 (fun _ _ => rfl) rx_82_1 (by decide) ?_
      refine R_aload_n e_X5_tryFlight_7.2.2.2.2.2.2.2.1 0 rfl ?_
      refine R_getI 5 10 10 e_X5_tryFlight_7.2.2.2.2.2.2.2.2.1 f_X5_37 kx_82 (fun _ _ => rfl) rfl ?_
      refine R_aload_n e_X5_tryFlight_7.2.2.2.2.2.2.2.2.2 0 rfl ?_
      refine R_getI 5 11 11 e_X5_tryFlight_8.1 f_X5_40 kx_82 (fun _ _ => rfl) rfl ?_
      refine R_callV (mc := 0) (ms := 0) (mc' := 0) (ms' := 0) (M' := M_X8_ownerOf) (d' := 0) (as := [vI (s18 82 10), vI (s18 82 11)]) (st := []) 8 2 e_X5_tryFlight_8.2.1 (kCVof m_X8_ownerOf l_X5_90) rfl (by decide) kx_58 (by omega) (by decide) rfl rfl (by show (0 : Nat) ≤ 8; decide) ?_
      refine Run.mono h (fun r19 s20 h => ?_)
      refine R_eqs (st2 := [vI r19]) rfl rfl ?_
      refine R_aload_n e_X5_tryFlight_8.2.2.1 0 rfl ?_
      refine R_getI 5 9 9 e_X5_tryFlight_8.2.2.2.1 f_X5_34 kx_82 (fun _ _ => rfl) rfl ?_
      obtain ⟨q21, h⟩ := h
      obtain ⟨q22, h⟩ := h
      refine R_icmp_ne 167 e_X5_tryFlight_8.2.2.2.2.1 (by decide) q21 q22 (fun q => ?_) (fun q => ?_)
      · replace h := h.1 q
        refine R_iconst e_X5_tryFlight_8.2.2.2.2.2.2.2.1 ?_
        refine R_ls (ls2 := [(0, vA G 82), (1, vI l1), (2, vI l2), (3, vA G l3), (4, vI l4), (5, vI l5), (6, vI l6), (7, vI l7)]) [0, 1, 2, 3, 4, 5, 6, 7] rfl ?_
        exact h
      · replace h := h.2 q
        refine R_iconst e_X5_tryFlight_8.2.2.2.2.2.1 ?_
        refine R_goto 168 e_X5_tryFlight_8.2.2.2.2.2.2.1 (by decide) ?_
        refine R_ls (ls2 := [(0, vA G 82), (1, vI l1), (2, vI l2), (3, vA G l3), (4, vI l4), (5, vI l5), (6, vI l6), (7, vI l7)]) [0, 1, 2, 3, 4, 5, 6, 7] rfl ?_
        exact h
theorem S_X5_tryFlight_168 {G : Kg} {σ : Kmem} {Q : Int → Kmem → Prop} {d dr : Nat} (hd : 12 ≤ d) (hdr : dr + 1 ≤ d) {l1 l2 l3 l4 l5 l6 l7 p0 : Int}  (hl3 : kIsX l3 3) (h : (rI p0) ∧ ((p0 = 0 → Run G WX M_X5_tryFlight dr 0 0 [vA G 82, vI (l1 + 1), vI l2] (kup σ 31 4 ((σ 31 4) + 1)) (fun r24 s25 => Run G WX M_X0_putCutSet 0 0 0 [vA G 31, vI l6] (kup s25 31 4 ((s25 31 4) - 1)) (fun r26 s27 => E_X5_tryFlight_86 G d l1 l2 l3 l4 l5 l6 (l7 + 1) (kup (kup s27 l3 1 l4) l3 2 l5) Q))) ∧ (p0 ≠ 0 → Run G WX M_X5_tryFlight dr 0 0 [vA G 82, vI (l1 + 1), vI (l2 + 1)] (kup σ 31 4 ((σ 31 4) + 1)) (fun r28 s29 => Run G WX M_X0_putCutSet 0 0 0 [vA G 31, vI l6] (kup s29 31 4 ((s29 31 4) - 1)) (fun r30 s31 => E_X5_tryFlight_86 G d l1 l2 l3 l4 l5 l6 (l7 + 1) (kup (kup s31 l3 1 l4) l3 2 l5) Q))))) : E_X5_tryFlight_168 G d l1 l2 l3 l4 l5 l6 l7 p0 σ Q := by
  refine R_istore (ls2 := [(8, vI p0), (0, vA G 82), (1, vI l1), (2, vI l2), (3, vA G l3), (4, vI l4), (5, vI l5), (6, vI l6), (7, vI l7)]) e_X5_tryFlight_8.2.2.2.2.2.2.2.2.1 (by decide) rfl ?_
  refine R_aload_n e_X5_tryFlight_8.2.2.2.2.2.2.2.2.2 1 rfl ?_
  refine R_getA 5 0 31 e_X5_tryFlight_9.1 f_X5_64 kx_82 (fun _ _ => rfl) rx_82_0 (by decide) ?_
  refine R_dup e_X5_tryFlight_9.2.1 rfl ?_
  refine R_getI 0 4 4 e_X5_tryFlight_9.2.2.1 f_X5_78 (kC_self isC_31) (fun _ _ => rfl) rfl ?_
  refine R_iconst e_X5_tryFlight_9.2.2.2.1 ?_
  refine R_iadd e_X5_tryFlight_9.2.2.2.2.1 ?_
  refine R_putI 0 4 4 WX_ok e_X5_tryFlight_9.2.2.2.2.2.1 f_X5_78 (kC_self isC_31) rfl rfl rfl ?_
  refine R_aload_n e_X5_tryFlight_9.2.2.2.2.2.2.1 1 rfl ?_
  refine R_iload_n e_X5_tryFlight_9.2.2.2.2.2.2.2.1 2 rfl ?_
  refine R_iconst e_X5_tryFlight_9.2.2.2.2.2.2.2.2.1 ?_
  refine R_iadd e_X5_tryFlight_9.2.2.2.2.2.2.2.2.2 ?_
  refine R_iload e_X5_tryFlight_10.1 0 rfl ?_
  obtain ⟨q23, h⟩ := h
  refine R_if_eq 198 e_X5_tryFlight_10.2.1 (by decide) q23  (fun q => ?_) (fun q => ?_)
  · replace h := h.1 q
    refine R_iload_n e_X5_tryFlight_10.2.2.2.2.2.2.1 3 rfl ?_
    refine R_callV (mc := 0) (ms := 0) (mc' := 0) (ms' := 0) (M' := M_X5_tryFlight) (d' := dr) (as := [vI (l1 + 1), vI l2]) (st := []) 5 2 e_X5_tryFlight_10.2.2.2.2.2.2.2.1 (kCVof m_X5_tryFlight l_X5_96) rfl (by decide) kx_82 hdr (by decide) rfl rfl (by show (0 : Nat) ≤ 8; decide) ?_
    refine Run.mono h (fun r24 s25 h => ?_)
    refine R_eqs (st2 := []) rfl rfl ?_
    refine R_aload_n e_X5_tryFlight_10.2.2.2.2.2.2.2.2.1 1 rfl ?_
    refine R_getA 5 0 31 e_X5_tryFlight_10.2.2.2.2.2.2.2.2.2 f_X5_64 kx_82 (fun _ _ => rfl) rx_82_0 (by decide) ?_
    refine R_dup e_X5_tryFlight_11.1 rfl ?_
    refine R_getI 0 4 4 e_X5_tryFlight_11.2.1 f_X5_78 (kC_self isC_31) (fun _ _ => rfl) rfl ?_
    refine R_iconst e_X5_tryFlight_11.2.2.1 ?_
    refine R_isub e_X5_tryFlight_11.2.2.2.1 ?_
    refine R_putI 0 4 4 WX_ok e_X5_tryFlight_11.2.2.2.2.1 f_X5_78 (kC_self isC_31) rfl rfl rfl ?_
    refine R_aload_n e_X5_tryFlight_11.2.2.2.2.2.1 1 rfl ?_
    refine R_getA 5 0 31 e_X5_tryFlight_11.2.2.2.2.2.2.1 f_X5_64 kx_82 (fun _ _ => rfl) rx_82_0 (by decide) ?_
    refine R_iload e_X5_tryFlight_11.2.2.2.2.2.2.2.1 7 rfl ?_
    refine R_callV (mc := 0) (ms := 0) (mc' := 0) (ms' := 0) (M' := M_X0_putCutSet) (d' := 0) (as := [vI l6]) (st := []) 0 1 e_X5_tryFlight_11.2.2.2.2.2.2.2.2.1 (kCVof m_X0_putCutSet l_X5_129) rfl (by decide) (kC_self isC_31) (by omega) (by decide) rfl rfl (by show (0 : Nat) ≤ 8; decide) ?_
    refine Run.mono h (fun r26 s27 h => ?_)
    refine R_eqs (st2 := []) rfl rfl ?_
    refine R_aload_n e_X5_tryFlight_11.2.2.2.2.2.2.2.2.2 4 rfl ?_
    refine R_iload e_X5_tryFlight_12.1 5 rfl ?_
    refine R_putI 3 1 1 WX_ok e_X5_tryFlight_12.2.1 f_X5_110 (kLX hl3) rfl rfl rfl ?_
    refine R_aload_n e_X5_tryFlight_12.2.2.1 4 rfl ?_
    refine R_iload e_X5_tryFlight_12.2.2.2.1 6 rfl ?_
    refine R_putI 3 2 2 WX_ok e_X5_tryFlight_12.2.2.2.2.1 f_X5_115 (kLX hl3) rfl rfl rfl ?_
    refine R_iinc (ls2 := [(7, vI (l7 + 1)), (8, vI p0), (0, vA G 82), (1, vI l1), (2, vI l2), (3, vA G l3), (4, vI l4), (5, vI l5), (6, vI l6)]) e_X5_tryFlight_12.2.2.2.2.2.1 8 rfl (by decide) rfl ?_
    refine R_goto 86 e_X5_tryFlight_12.2.2.2.2.2.2.1 (by decide) ?_
    refine R_ls (ls2 := [(0, vA G 82), (1, vI l1), (2, vI l2), (3, vA G l3), (4, vI l4), (5, vI l5), (6, vI l6), (7, vI (l7 + 1))]) [2, 3, 4, 5, 6, 7, 8, 0] rfl ?_
    exact h
  · replace h := h.2 q
    refine R_iload_n e_X5_tryFlight_10.2.2.1 3 rfl ?_
    refine R_iconst e_X5_tryFlight_10.2.2.2.1 ?_
    refine R_iadd e_X5_tryFlight_10.2.2.2.2.1 ?_
    refine R_goto 199 e_X5_tryFlight_10.2.2.2.2.2.1 (by decide) ?_
    refine R_callV (mc := 0) (ms := 0) (mc' := 0) (ms' := 0) (M' := M_X5_tryFlight) (d' := dr) (as := [vI (l1 + 1), vI (l2 + 1)]) (st := []) 5 2 e_X5_tryFlight_10.2.2.2.2.2.2.2.1 (kCVof m_X5_tryFlight l_X5_96) rfl (by decide) kx_82 hdr (by decide) rfl rfl (by show (0 : Nat) ≤ 8; decide) ?_
    refine Run.mono h (fun r28 s29 h => ?_)
    refine R_eqs (st2 := []) rfl rfl ?_
    refine R_aload_n e_X5_tryFlight_10.2.2.2.2.2.2.2.2.1 1 rfl ?_
    refine R_getA 5 0 31 e_X5_tryFlight_10.2.2.2.2.2.2.2.2.2 f_X5_64 kx_82 (fun _ _ => rfl) rx_82_0 (by decide) ?_
    refine R_dup e_X5_tryFlight_11.1 rfl ?_
    refine R_getI 0 4 4 e_X5_tryFlight_11.2.1 f_X5_78 (kC_self isC_31) (fun _ _ => rfl) rfl ?_
    refine R_iconst e_X5_tryFlight_11.2.2.1 ?_
    refine R_isub e_X5_tryFlight_11.2.2.2.1 ?_
    refine R_putI 0 4 4 WX_ok e_X5_tryFlight_11.2.2.2.2.1 f_X5_78 (kC_self isC_31) rfl rfl rfl ?_
    refine R_aload_n e_X5_tryFlight_11.2.2.2.2.2.1 1 rfl ?_
    refine R_getA 5 0 31 e_X5_tryFlight_11.2.2.2.2.2.2.1 f_X5_64 kx_82 (fun _ _ => rfl) rx_82_0 (by decide) ?_
    refine R_iload e_X5_tryFlight_11.2.2.2.2.2.2.2.1 7 rfl ?_
    refine R_callV (mc := 0) (ms := 0) (mc' := 0) (ms' := 0) (M' := M_X0_putCutSet) (d' := 0) (as := [vI l6]) (st := []) 0 1 e_X5_tryFlight_11.2.2.2.2.2.2.2.2.1 (kCVof m_X0_putCutSet l_X5_129) rfl (by decide) (kC_self isC_31) (by omega) (by decide) rfl rfl (by show (0 : Nat) ≤ 8; decide) ?_
    refine Run.mono h (fun r30 s31 h => ?_)
    refine R_eqs (st2 := []) rfl rfl ?_
    refine R_aload_n e_X5_tryFlight_11.2.2.2.2.2.2.2.2.2 4 rfl ?_
    refine R_iload e_X5_tryFlight_12.1 5 rfl ?_
    refine R_putI 3 1 1 WX_ok e_X5_tryFlight_12.2.1 f_X5_110 (kLX hl3) rfl rfl rfl ?_
    refine R_aload_n e_X5_tryFlight_12.2.2.1 4 rfl ?_
    refine R_iload e_X5_tryFlight_12.2.2.2.1 6 rfl ?_
    refine R_putI 3 2 2 WX_ok e_X5_tryFlight_12.2.2.2.2.1 f_X5_115 (kLX hl3) rfl rfl rfl ?_
    refine R_iinc (ls2 := [(7, vI (l7 + 1)), (8, vI p0), (0, vA G 82), (1, vI l1), (2, vI l2), (3, vA G l3), (4, vI l4), (5, vI l5), (6, vI l6)]) e_X5_tryFlight_12.2.2.2.2.2.1 8 rfl (by decide) rfl ?_
    refine R_goto 86 e_X5_tryFlight_12.2.2.2.2.2.2.1 (by decide) ?_
    refine R_ls (ls2 := [(0, vA G 82), (1, vI l1), (2, vI l2), (3, vA G l3), (4, vI l4), (5, vI l5), (6, vI l6), (7, vI (l7 + 1))]) [2, 3, 4, 5, 6, 7, 8, 0] rfl ?_
    exact h
/-! KiteLand$Plans.seekCover([JI)Z -/
theorem e_X5_seekCover_0 : decode cX5_seekCover 0 = .ok (.iconst 0, 1) ∧ decode cX5_seekCover 1 = .ok (.istore_n 3, 1) ∧ decode cX5_seekCover 2 = .ok (.iload_n 3, 1) ∧ decode cX5_seekCover 3 = .ok (.iload_n 2, 1) ∧ decode cX5_seekCover 4 = .ok (.if_icmp .ge 38, 3) ∧ decode cX5_seekCover 7 = .ok (.aload_n 1, 1) ∧ decode cX5_seekCover 8 = .ok (.iload_n 3, 1) ∧ decode cX5_seekCover 9 = .ok (.laload, 1) ∧ decode cX5_seekCover 10 = .ok (.l2i, 1) ∧ decode cX5_seekCover 11 = .ok (.istore 4, 2) := by decide +kernel
theorem e_X5_seekCover_1 : decode cX5_seekCover 13 = .ok (.aload_n 0, 1) ∧ decode cX5_seekCover 14 = .ok (.getfield 52, 3) ∧ decode cX5_seekCover 17 = .ok (.iload_n 3, 1) ∧ decode cX5_seekCover 18 = .ok (.aload_n 0, 1) ∧ decode cX5_seekCover 19 = .ok (.getfield 68, 3) ∧ decode cX5_seekCover 22 = .ok (.iload 4, 2) ∧ decode cX5_seekCover 24 = .ok (.bipush 10, 2) ∧ decode cX5_seekCover 26 = .ok (.irem, 1) ∧ decode cX5_seekCover 27 = .ok (.iload 4, 2) ∧ decode cX5_seekCover 29 = .ok (.bipush 10, 2) := by decide +kernel
theorem e_X5_seekCover_2 : decode cX5_seekCover 31 = .ok (.idiv, 1) ∧ decode cX5_seekCover 32 = .ok (.invokevirtual 133, 3) ∧ decode cX5_seekCover 35 = .ok (.iastore, 1) ∧ decode cX5_seekCover 36 = .ok (.iinc 3 1, 3) ∧ decode cX5_seekCover 39 = .ok (.goto (-37), 3) ∧ decode cX5_seekCover 42 = .ok (.aload_n 0, 1) ∧ decode cX5_seekCover 43 = .ok (.iconst (-1), 1) ∧ decode cX5_seekCover 44 = .ok (.putfield 49, 3) ∧ decode cX5_seekCover 47 = .ok (.bipush 7, 2) ∧ decode cX5_seekCover 49 = .ok (.istore_n 3, 1) := by decide +kernel
theorem e_X5_seekCover_3 : decode cX5_seekCover 50 = .ok (.iconst 0, 1) ∧ decode cX5_seekCover 51 = .ok (.istore 4, 2) ∧ decode cX5_seekCover 53 = .ok (.iload 4, 2) ∧ decode cX5_seekCover 55 = .ok (.bipush 64, 2) ∧ decode cX5_seekCover 57 = .ok (.if_icmp .ge 40, 3) ∧ decode cX5_seekCover 60 = .ok (.iload 4, 2) ∧ decode cX5_seekCover 62 = .ok (.invokestatic 136, 3) ∧ decode cX5_seekCover 65 = .ok (.iload_n 3, 1) ∧ decode cX5_seekCover 66 = .ok (.if_icmp .ge 25, 3) ∧ decode cX5_seekCover 69 = .ok (.aload_n 0, 1) := by decide +kernel
theorem e_X5_seekCover_4 : decode cX5_seekCover 70 = .ok (.iload 4, 2) ∧ decode cX5_seekCover 72 = .ok (.iload_n 2, 1) ∧ decode cX5_seekCover 73 = .ok (.invokevirtual 142, 3) ∧ decode cX5_seekCover 76 = .ok (.ifCond .eq 15, 3) ∧ decode cX5_seekCover 79 = .ok (.iload 4, 2) ∧ decode cX5_seekCover 81 = .ok (.invokestatic 136, 3) ∧ decode cX5_seekCover 84 = .ok (.istore_n 3, 1) ∧ decode cX5_seekCover 85 = .ok (.aload_n 0, 1) ∧ decode cX5_seekCover 86 = .ok (.iload 4, 2) ∧ decode cX5_seekCover 88 = .ok (.putfield 49, 3) := by decide +kernel
theorem e_X5_seekCover_5 : decode cX5_seekCover 91 = .ok (.iinc 4 1, 3) ∧ decode cX5_seekCover 94 = .ok (.goto (-41), 3) ∧ decode cX5_seekCover 97 = .ok (.aload_n 0, 1) ∧ decode cX5_seekCover 98 = .ok (.getfield 49, 3) ∧ decode cX5_seekCover 101 = .ok (.iconst (-1), 1) ∧ decode cX5_seekCover 102 = .ok (.if_icmp .eq 7, 3) ∧ decode cX5_seekCover 105 = .ok (.iconst 1, 1) ∧ decode cX5_seekCover 106 = .ok (.goto 4, 3) ∧ decode cX5_seekCover 109 = .ok (.iconst 0, 1) ∧ decode cX5_seekCover 110 = .ok (.ireturn, 1) := by decide +kernel
abbrev E_X5_seekCover_2 (G : Kg) (n l2 l3 : Int) (σ : Kmem) (Q : Int → Kmem → Prop) : Prop := Ex G WX M_X5_seekCover 1 0 0 2 [(0, vA G 82), (1, vA G n), (2, vI l2), (3, vI l3)] [] σ Q
abbrev E_X5_seekCover_53 (G : Kg) (l2 l3 l4 : Int) (σ : Kmem) (Q : Int → Kmem → Prop) : Prop := Ex G WX M_X5_seekCover 1 0 0 53 [(0, vA G 82), (2, vI l2), (3, vI l3), (4, vI l4)] [] σ Q
theorem S_X5_seekCover {G : Kg} {σ : Kmem} {Q : Int → Kmem → Prop} {n l2 : Int} (hn : kArX n 21 60) (h : E_X5_seekCover_2 G n l2 0 σ Q) : Run G WX M_X5_seekCover 1 0 0 [vA G 82, vA G n, vI l2] σ Q := by
  refine Run.of (by decide +kernel) (by show (3 : Nat) ≤ 5; decide) ?_
  show Ex G WX M_X5_seekCover 1 0 0 0 [(0, vA G 82), (1, vA G n), (2, vI l2)] [] σ Q
  refine R_iconst e_X5_seekCover_0.1 ?_
  refine R_istore_n (ls2 := [(3, vI 0), (0, vA G 82), (1, vA G n), (2, vI l2)]) e_X5_seekCover_0.2.1 (by decide) rfl ?_
  refine R_ls (ls2 := [(0, vA G 82), (1, vA G n), (2, vI l2), (3, vI 0)]) [1, 2, 3, 0] rfl ?_
  exact h
theorem S_X5_seekCover_2 {G : Kg} {σ : Kmem} {Q : Int → Kmem → Prop} {n l2 l3 : Int} (hn : kArX n 21 60) (h : (rI l3) ∧ (rI l2) ∧ ((l2 ≤ l3 → E_X5_seekCover_53 G l2 7 0 (kup σ 82 14 (-1)) Q) ∧ (l3 < l2 → (0 ≤ l3 ∧ l3 < 60) ∧ (0 ≤ σ n l3 ∧ σ n l3 ≤ 2147483647) ∧ (0 ≤ σ n l3 ∧ σ n l3 ≤ 2147483647) ∧ Run G WX M_X8_shadersOf 0 0 0 [vA G 58, vI ((σ n l3) % 10), vI ((σ n l3) / 10)] σ (fun r6 s7 => (0 ≤ l3 ∧ l3 < 20) ∧ E_X5_seekCover_2 G n l2 (l3 + 1) (kup s7 87 l3 r6) Q)))) : E_X5_seekCover_2 G n l2 l3 σ Q := by
  refine R_iload_n e_X5_seekCover_0.2.2.1 3 rfl ?_
  refine R_iload_n e_X5_seekCover_0.2.2.2.1 2 rfl ?_
  obtain ⟨q1, h⟩ := h
  obtain ⟨q2, h⟩ := h
  refine R_icmp_ge 42 e_X5_seekCover_0.2.2.2.2.1 (by decide) q1 q2 (fun q => ?_) (fun q => ?_)
  · replace h := h.1 q
    refine R_aload_n e_X5_seekCover_2.2.2.2.2.2.1 0 rfl ?_
    refine R_iconst e_X5_seekCover_2.2.2.2.2.2.2.1 ?_
    refine R_putI 5 14 14 WX_ok e_X5_seekCover_2.2.2.2.2.2.2.2.1 f_X5_49 kx_82 rfl rfl rfl ?_
    refine R_bipush e_X5_seekCover_2.2.2.2.2.2.2.2.2.1 (by decide) ?_
    refine R_istore_n (ls2 := [(3, vI 7), (0, vA G 82), (1, vA G n), (2, vI l2)]) e_X5_seekCover_2.2.2.2.2.2.2.2.2.2 (by decide) rfl ?_
    refine R_iconst e_X5_seekCover_3.1 ?_
    refine R_istore (ls2 := [(4, vI 0), (3, vI 7), (0, vA G 82), (1, vA G n), (2, vI l2)]) e_X5_seekCover_3.2.1 (by decide) rfl ?_
    refine R_ls (ls2 := [(0, vA G 82), (2, vI l2), (3, vI 7), (4, vI 0)]) [2, 4, 1, 0] rfl ?_
    exact h
  · replace h := h.2 q
    refine R_aload_n e_X5_seekCover_0.2.2.2.2.2.1 1 rfl ?_
    refine R_iload_n e_X5_seekCover_0.2.2.2.2.2.2.1 3 rfl ?_
    obtain ⟨q3, h⟩ := h
    refine R_lald 60 e_X5_seekCover_0.2.2.2.2.2.2.2.1 (kLXa hn) q3 ?_
    refine R_l2i e_X5_seekCover_0.2.2.2.2.2.2.2.2.1 ?_
    refine R_istore (ls2 := [(4, vI (σ n l3)), (0, vA G 82), (1, vA G n), (2, vI l2), (3, vI l3)]) e_X5_seekCover_0.2.2.2.2.2.2.2.2.2 (by decide) rfl ?_
    refine R_aload_n e_X5_seekCover_1.1 1 rfl ?_
    refine R_getA 5 15 87 e_X5_seekCover_1.2.1 f_X5_52 kx_82 (fun _ _ => rfl) rx_82_15 (by decide) ?_
    refine R_iload_n e_X5_seekCover_1.2.2.1 4 rfl ?_
    refine R_aload_n e_X5_seekCover_1.2.2.2.1 1 rfl ?_
    refine R_getA 5 1 58 e_X5_seekCover_1.2.2.2.2.1 f_X5_68 kx_82 (fun _ _ => rfl) rx_82_1 (by decide) ?_
    refine R_iload e_X5_seekCover_1.2.2.2.2.2.1 0 rfl ?_
    refine R_bipush e_X5_seekCover_1.2.2.2.2.2.2.1 (by decide) ?_
    obtain ⟨q4, h⟩ := h
    refine R_irem e_X5_seekCover_1.2.2.2.2.2.2.2.1 q4 (by decide) ?_
    refine R_iload e_X5_seekCover_1.2.2.2.2.2.2.2.2.1 0 rfl ?_
    refine R_bipush e_X5_seekCover_1.2.2.2.2.2.2.2.2.2 (by decide) ?_
    obtain ⟨q5, h⟩ := h
    refine R_idiv e_X5_seekCover_2.1 q5 (by decide) ?_
    refine R_callV (mc := 0) (ms := 0) (mc' := 0) (ms' := 0) (M' := M_X8_shadersOf) (d' := 0) (as := [vI ((σ n l3) % 10), vI ((σ n l3) / 10)]) (st := [vI l3, vA G 87]) 8 2 e_X5_seekCover_2.2.1 (kCVof m_X8_shadersOf l_X5_133) rfl (by decide) kx_58 (by decide) (by decide) rfl rfl (by show (2 : Nat) ≤ 8; decide) ?_
    refine Run.mono h (fun r6 s7 h => ?_)
    refine R_eqs (st2 := [vI r6, vI l3, vA G 87]) rfl rfl ?_
    obtain ⟨q8, h⟩ := h
    refine R_iast 20 WX_ok e_X5_seekCover_2.2.2.1 kxa_87 q8 ?_
    refine R_iinc (ls2 := [(3, vI (l3 + 1)), (4, vI (σ n l3)), (0, vA G 82), (1, vA G n), (2, vI l2)]) e_X5_seekCover_2.2.2.2.1 4 rfl (by decide) rfl ?_
    refine R_goto 2 e_X5_seekCover_2.2.2.2.2.1 (by decide) ?_
    refine R_ls (ls2 := [(0, vA G 82), (1, vA G n), (2, vI l2), (3, vI (l3 + 1))]) [2, 3, 4, 0] rfl ?_
    exact h
theorem S_X5_seekCover_53 {G : Kg} {σ : Kmem} {Q : Int → Kmem → Prop} {n l2 l3 l4 : Int} (hn : kArX n 21 60) (h : (rI l4) ∧ ((64 ≤ l4 → (rI (σ 82 14)) ∧ ((σ 82 14 = -1 → Q 0 σ) ∧ (σ 82 14 ≠ -1 → Q 1 σ))) ∧ (l4 < 64 → Run G WX M_J6_bitCount_0f7a4 0 0 0 [vI l4] σ (fun r11 s12 => (rI r11) ∧ (rI l3) ∧ ((l3 ≤ r11 → E_X5_seekCover_53 G l2 l3 (l4 + 1) s12 Q) ∧ (r11 < l3 → Run G WX M_X5_isCovering 0 0 0 [vA G 82, vI l4, vI l2] s12 (fun r15 s16 => (rI r15) ∧ ((r15 = 0 → E_X5_seekCover_53 G l2 l3 (l4 + 1) s16 Q) ∧ (r15 ≠ 0 → Run G WX M_J6_bitCount_0f7a4 0 0 0 [vI l4] s16 (fun r18 s19 => E_X5_seekCover_53 G l2 r18 (l4 + 1) (kup s19 82 14 l4) Q)))))))))) : E_X5_seekCover_53 G l2 l3 l4 σ Q := by
  refine R_iload e_X5_seekCover_3.2.2.1 3 rfl ?_
  refine R_bipush e_X5_seekCover_3.2.2.2.1 (by decide) ?_
  obtain ⟨q9, h⟩ := h
  refine R_icmp_ge 97 e_X5_seekCover_3.2.2.2.2.1 (by decide) q9 (by decide) (fun q => ?_) (fun q => ?_)
  · replace h := h.1 q
    refine R_aload_n e_X5_seekCover_5.2.2.1 0 rfl ?_
    refine R_getI 5 14 14 e_X5_seekCover_5.2.2.2.1 f_X5_49 kx_82 (fun _ _ => rfl) rfl ?_
    refine R_iconst e_X5_seekCover_5.2.2.2.2.1 ?_
    obtain ⟨q10, h⟩ := h
    refine R_icmp_eq 109 e_X5_seekCover_5.2.2.2.2.2.1 (by decide) q10 (by decide) (fun q => ?_) (fun q => ?_)
    · replace h := h.1 q
      refine R_iconst e_X5_seekCover_5.2.2.2.2.2.2.2.2.1 ?_
      exact R_zreturn e_X5_seekCover_5.2.2.2.2.2.2.2.2.2 rfl (Or.inl rfl) h
    · replace h := h.2 q
      refine R_iconst e_X5_seekCover_5.2.2.2.2.2.2.1 ?_
      refine R_goto 110 e_X5_seekCover_5.2.2.2.2.2.2.2.1 (by decide) ?_
      exact R_zreturn e_X5_seekCover_5.2.2.2.2.2.2.2.2.2 rfl (Or.inr rfl) h
  · replace h := h.2 q
    refine R_iload e_X5_seekCover_3.2.2.2.2.2.1 3 rfl ?_
    refine R_callS (mc := 0) (ms := 0) (mc' := 0) (ms' := 0) (M' := M_J6_bitCount_0f7a4) (d' := 0) (as := [vI l4]) (st := []) 1 e_X5_seekCover_3.2.2.2.2.2.2.1 (kCSof m_J6_bitCount_0f7a4 l_X5_136) (by decide) (by decide) rfl rfl (by show (0 : Nat) ≤ 8; decide) ?_
    refine Run.mono h (fun r11 s12 h => ?_)
    refine R_eqs (st2 := [vI r11]) rfl rfl ?_
    refine R_iload_n e_X5_seekCover_3.2.2.2.2.2.2.2.1 2 rfl ?_
    obtain ⟨q13, h⟩ := h
    obtain ⟨q14, h⟩ := h
    refine R_icmp_ge 91 e_X5_seekCover_3.2.2.2.2.2.2.2.2.1 (by decide) q13 q14 (fun q => ?_) (fun q => ?_)
    · replace h := h.1 q
      refine R_iinc (ls2 := [(4, vI (l4 + 1)), (0, vA G 82), (2, vI l2), (3, vI l3)]) e_X5_seekCover_5.1 3 rfl (by decide) rfl ?_
      refine R_goto 53 e_X5_seekCover_5.2.1 (by decide) ?_
      refine R_ls (ls2 := [(0, vA G 82), (2, vI l2), (3, vI l3), (4, vI (l4 + 1))]) [1, 2, 3, 0] rfl ?_
      exact h
    · replace h := h.2 q
      refine R_aload_n e_X5_seekCover_3.2.2.2.2.2.2.2.2.2 0 rfl ?_
      refine R_iload e_X5_seekCover_4.1 3 rfl ?_
      refine R_iload_n e_X5_seekCover_4.2.1 1 rfl ?_
      refine R_callV (mc := 0) (ms := 0) (mc' := 0) (ms' := 0) (M' := M_X5_isCovering) (d' := 0) (as := [vI l4, vI l2]) (st := []) 5 2 e_X5_seekCover_4.2.2.1 (kCVof m_X5_isCovering l_X5_142) rfl (by decide) kx_82 (by decide) (by decide) rfl rfl (by show (0 : Nat) ≤ 8; decide) ?_
      refine Run.mono h (fun r15 s16 h => ?_)
      refine R_eqs (st2 := [vI r15]) rfl rfl ?_
      obtain ⟨q17, h⟩ := h
      refine R_if_eq 91 e_X5_seekCover_4.2.2.2.1 (by decide) q17  (fun q => ?_) (fun q => ?_)
      · replace h := h.1 q
        refine R_iinc (ls2 := [(4, vI (l4 + 1)), (0, vA G 82), (2, vI l2), (3, vI l3)]) e_X5_seekCover_5.1 3 rfl (by decide) rfl ?_
        refine R_goto 53 e_X5_seekCover_5.2.1 (by decide) ?_
        refine R_ls (ls2 := [(0, vA G 82), (2, vI l2), (3, vI l3), (4, vI (l4 + 1))]) [1, 2, 3, 0] rfl ?_
        exact h
      · replace h := h.2 q
        refine R_iload e_X5_seekCover_4.2.2.2.2.1 3 rfl ?_
        refine R_callS (mc := 0) (ms := 0) (mc' := 0) (ms' := 0) (M' := M_J6_bitCount_0f7a4) (d' := 0) (as := [vI l4]) (st := []) 1 e_X5_seekCover_4.2.2.2.2.2.1 (kCSof m_J6_bitCount_0f7a4 l_X5_136) (by decide) (by decide) rfl rfl (by show (0 : Nat) ≤ 8; decide) ?_
        refine Run.mono h (fun r18 s19 h => ?_)
        refine R_eqs (st2 := [vI r18]) rfl rfl ?_
        refine R_istore_n (ls2 := [(3, vI r18), (0, vA G 82), (2, vI l2), (4, vI l4)]) e_X5_seekCover_4.2.2.2.2.2.2.1 (by decide) rfl ?_
        refine R_aload_n e_X5_seekCover_4.2.2.2.2.2.2.2.1 1 rfl ?_
        refine R_iload e_X5_seekCover_4.2.2.2.2.2.2.2.2.1 3 rfl ?_
        refine R_putI 5 14 14 WX_ok e_X5_seekCover_4.2.2.2.2.2.2.2.2.2 f_X5_49 kx_82 rfl rfl rfl ?_
        refine R_iinc (ls2 := [(4, vI (l4 + 1)), (3, vI r18), (0, vA G 82), (2, vI l2)]) e_X5_seekCover_5.1 3 rfl (by decide) rfl ?_
        refine R_goto 53 e_X5_seekCover_5.2.1 (by decide) ?_
        refine R_ls (ls2 := [(0, vA G 82), (2, vI l2), (3, vI r18), (4, vI (l4 + 1))]) [2, 3, 1, 0] rfl ?_
        exact h
/-! KiteLand$Plans.isCovering(II)Z -/
theorem e_X5_isCovering_0 : decode cX5_isCovering 0 = .ok (.iconst 0, 1) ∧ decode cX5_isCovering 1 = .ok (.istore_n 3, 1) ∧ decode cX5_isCovering 2 = .ok (.iload_n 3, 1) ∧ decode cX5_isCovering 3 = .ok (.iload_n 2, 1) ∧ decode cX5_isCovering 4 = .ok (.if_icmp .ge 22, 3) ∧ decode cX5_isCovering 7 = .ok (.aload_n 0, 1) ∧ decode cX5_isCovering 8 = .ok (.getfield 52, 3) ∧ decode cX5_isCovering 11 = .ok (.iload_n 3, 1) ∧ decode cX5_isCovering 12 = .ok (.iaload, 1) ∧ decode cX5_isCovering 13 = .ok (.iload_n 1, 1) := by decide +kernel
theorem e_X5_isCovering_1 : decode cX5_isCovering 14 = .ok (.iand, 1) ∧ decode cX5_isCovering 15 = .ok (.ifCond .ne 5, 3) ∧ decode cX5_isCovering 18 = .ok (.iconst 0, 1) ∧ decode cX5_isCovering 19 = .ok (.ireturn, 1) ∧ decode cX5_isCovering 20 = .ok (.iinc 3 1, 3) ∧ decode cX5_isCovering 23 = .ok (.goto (-21), 3) ∧ decode cX5_isCovering 26 = .ok (.iconst 1, 1) ∧ decode cX5_isCovering 27 = .ok (.ireturn, 1) := by decide +kernel
abbrev E_X5_isCovering_2 (G : Kg) (l1 l2 l3 : Int) (σ : Kmem) (Q : Int → Kmem → Prop) : Prop := Ex G WX M_X5_isCovering 0 0 0 2 [(0, vA G 82), (1, vI l1), (2, vI l2), (3, vI l3)] [] σ Q
theorem S_X5_isCovering {G : Kg} {σ : Kmem} {Q : Int → Kmem → Prop} {l1 l2 : Int}  (h : E_X5_isCovering_2 G l1 l2 0 σ Q) : Run G WX M_X5_isCovering 0 0 0 [vA G 82, vI l1, vI l2] σ Q := by
  refine Run.of (by decide +kernel) (by show (3 : Nat) ≤ 4; decide) ?_
  show Ex G WX M_X5_isCovering 0 0 0 0 [(0, vA G 82), (1, vI l1), (2, vI l2)] [] σ Q
  refine R_iconst e_X5_isCovering_0.1 ?_
  refine R_istore_n (ls2 := [(3, vI 0), (0, vA G 82), (1, vI l1), (2, vI l2)]) e_X5_isCovering_0.2.1 (by decide) rfl ?_
  refine R_ls (ls2 := [(0, vA G 82), (1, vI l1), (2, vI l2), (3, vI 0)]) [1, 2, 3, 0] rfl ?_
  exact h
theorem S_X5_isCovering_2 {G : Kg} {σ : Kmem} {Q : Int → Kmem → Prop} {l1 l2 l3 : Int}  (h : (rI l3) ∧ (rI l2) ∧ ((l2 ≤ l3 → Q 1 σ) ∧ (l3 < l2 → (0 ≤ l3 ∧ l3 < 20) ∧ (rI (kand (σ 87 l3) l1)) ∧ ((kand (σ 87 l3) l1 ≠ 0 → E_X5_isCovering_2 G l1 l2 (l3 + 1) σ Q) ∧ (kand (σ 87 l3) l1 = 0 → Q 0 σ))))) : E_X5_isCovering_2 G l1 l2 l3 σ Q := by
  refine R_iload_n e_X5_isCovering_0.2.2.1 3 rfl ?_
  refine R_iload_n e_X5_isCovering_0.2.2.2.1 2 rfl ?_
  obtain ⟨q1, h⟩ := h
  obtain ⟨q2, h⟩ := h
  refine R_icmp_ge 26 e_X5_isCovering_0.2.2.2.2.1 (by decide) q1 q2 (fun q => ?_) (fun q => ?_)
  · replace h := h.1 q
    refine R_iconst e_X5_isCovering_1.2.2.2.2.2.2.1 ?_
    exact R_zreturn e_X5_isCovering_1.2.2.2.2.2.2.2 rfl (Or.inr rfl) h
  · replace h := h.2 q
    refine R_aload_n e_X5_isCovering_0.2.2.2.2.2.1 0 rfl ?_
    refine R_getA 5 15 87 e_X5_isCovering_0.2.2.2.2.2.2.1 f_X5_52 kx_82 (fun _ _ => rfl) rx_82_15 (by decide) ?_
    refine R_iload_n e_X5_isCovering_0.2.2.2.2.2.2.2.1 3 rfl ?_
    obtain ⟨q3, h⟩ := h
    refine R_iald 20 e_X5_isCovering_0.2.2.2.2.2.2.2.2.1 kxa_87 q3 ?_
    refine R_iload_n e_X5_isCovering_0.2.2.2.2.2.2.2.2.2 1 rfl ?_
    refine R_iand e_X5_isCovering_1.1 ?_
    obtain ⟨q4, h⟩ := h
    refine R_if_ne 20 e_X5_isCovering_1.2.1 (by decide) q4  (fun q => ?_) (fun q => ?_)
    · replace h := h.1 q
      refine R_iinc (ls2 := [(3, vI (l3 + 1)), (0, vA G 82), (1, vI l1), (2, vI l2)]) e_X5_isCovering_1.2.2.2.2.1 3 rfl (by decide) rfl ?_
      refine R_goto 2 e_X5_isCovering_1.2.2.2.2.2.1 (by decide) ?_
      refine R_ls (ls2 := [(0, vA G 82), (1, vI l1), (2, vI l2), (3, vI (l3 + 1))]) [1, 2, 3, 0] rfl ?_
      exact h
    · replace h := h.2 q
      refine R_iconst e_X5_isCovering_1.2.2.1 ?_
      exact R_zreturn e_X5_isCovering_1.2.2.2.1 rfl (Or.inl rfl) h
/-! KiteLand$Plans.mostSettled(I)I -/
theorem e_X5_mostSettled_0 : decode cX5_mostSettled 0 = .ok (.aload_n 0, 1) ∧ decode cX5_mostSettled 1 = .ok (.getfield 68, 3) ∧ decode cX5_mostSettled 4 = .ok (.aload_n 0, 1) ∧ decode cX5_mostSettled 5 = .ok (.getfield 64, 3) ∧ decode cX5_mostSettled 8 = .ok (.aload_n 0, 1) ∧ decode cX5_mostSettled 9 = .ok (.getfield 64, 3) ∧ decode cX5_mostSettled 12 = .ok (.invokevirtual 145, 3) ∧ decode cX5_mostSettled 15 = .ok (.invokevirtual 148, 3) ∧ decode cX5_mostSettled 18 = .ok (.iconst 0, 1) ∧ decode cX5_mostSettled 19 = .ok (.istore_n 2, 1) := by decide +kernel
theorem e_X5_mostSettled_1 : decode cX5_mostSettled 20 = .ok (.iload_n 2, 1) ∧ decode cX5_mostSettled 21 = .ok (.aload_n 0, 1) ∧ decode cX5_mostSettled 22 = .ok (.getfield 55, 3) ∧ decode cX5_mostSettled 25 = .ok (.arraylength, 1) ∧ decode cX5_mostSettled 26 = .ok (.if_icmp .ge 24, 3) ∧ decode cX5_mostSettled 29 = .ok (.aload_n 0, 1) ∧ decode cX5_mostSettled 30 = .ok (.getfield 55, 3) ∧ decode cX5_mostSettled 33 = .ok (.iload_n 2, 1) ∧ decode cX5_mostSettled 34 = .ok (.iload_n 2, 1) ∧ decode cX5_mostSettled 35 = .ok (.ifCond .ne 7, 3) := by decide +kernel
theorem e_X5_mostSettled_2 : decode cX5_mostSettled 38 = .ok (.iconst 1, 1) ∧ decode cX5_mostSettled 39 = .ok (.goto 4, 3) ∧ decode cX5_mostSettled 42 = .ok (.iconst 0, 1) ∧ decode cX5_mostSettled 43 = .ok (.bastore, 1) ∧ decode cX5_mostSettled 44 = .ok (.iinc 2 1, 3) ∧ decode cX5_mostSettled 47 = .ok (.goto (-27), 3) ∧ decode cX5_mostSettled 50 = .ok (.iconst 0, 1) ∧ decode cX5_mostSettled 51 = .ok (.istore_n 2, 1) ∧ decode cX5_mostSettled 52 = .ok (.iload_n 2, 1) ∧ decode cX5_mostSettled 53 = .ok (.aload_n 0, 1) := by decide +kernel
theorem e_X5_mostSettled_3 : decode cX5_mostSettled 54 = .ok (.getfield 64, 3) ∧ decode cX5_mostSettled 57 = .ok (.getfield 84, 3) ∧ decode cX5_mostSettled 60 = .ok (.if_icmp .ge 35, 3) ∧ decode cX5_mostSettled 63 = .ok (.iconst 0, 1) ∧ decode cX5_mostSettled 64 = .ok (.istore_n 3, 1) ∧ decode cX5_mostSettled 65 = .ok (.iload_n 3, 1) ∧ decode cX5_mostSettled 66 = .ok (.aload_n 0, 1) ∧ decode cX5_mostSettled 67 = .ok (.getfield 64, 3) ∧ decode cX5_mostSettled 70 = .ok (.getfield 87, 3) ∧ decode cX5_mostSettled 73 = .ok (.if_icmp .ge 16, 3) := by decide +kernel
theorem e_X5_mostSettled_4 : decode cX5_mostSettled 76 = .ok (.aload_n 0, 1) ∧ decode cX5_mostSettled 77 = .ok (.iload_n 3, 1) ∧ decode cX5_mostSettled 78 = .ok (.iload_n 2, 1) ∧ decode cX5_mostSettled 79 = .ok (.iload_n 1, 1) ∧ decode cX5_mostSettled 80 = .ok (.invokevirtual 152, 3) ∧ decode cX5_mostSettled 83 = .ok (.iinc 3 1, 3) ∧ decode cX5_mostSettled 86 = .ok (.goto (-21), 3) ∧ decode cX5_mostSettled 89 = .ok (.iinc 2 1, 3) ∧ decode cX5_mostSettled 92 = .ok (.goto (-40), 3) ∧ decode cX5_mostSettled 95 = .ok (.iconst 0, 1) := by decide +kernel
theorem e_X5_mostSettled_5 : decode cX5_mostSettled 96 = .ok (.istore_n 2, 1) ∧ decode cX5_mostSettled 97 = .ok (.iconst 0, 1) ∧ decode cX5_mostSettled 98 = .ok (.istore_n 3, 1) ∧ decode cX5_mostSettled 99 = .ok (.iload_n 3, 1) ∧ decode cX5_mostSettled 100 = .ok (.aload_n 0, 1) ∧ decode cX5_mostSettled 101 = .ok (.getfield 55, 3) ∧ decode cX5_mostSettled 104 = .ok (.arraylength, 1) ∧ decode cX5_mostSettled 105 = .ok (.if_icmp .ge 27, 3) ∧ decode cX5_mostSettled 108 = .ok (.aload_n 0, 1) ∧ decode cX5_mostSettled 109 = .ok (.getfield 55, 3) := by decide +kernel
theorem e_X5_mostSettled_6 : decode cX5_mostSettled 112 = .ok (.iload_n 3, 1) ∧ decode cX5_mostSettled 113 = .ok (.baload, 1) ∧ decode cX5_mostSettled 114 = .ok (.ifCond .eq 12, 3) ∧ decode cX5_mostSettled 117 = .ok (.iload_n 2, 1) ∧ decode cX5_mostSettled 118 = .ok (.iload_n 3, 1) ∧ decode cX5_mostSettled 119 = .ok (.invokestatic 136, 3) ∧ decode cX5_mostSettled 122 = .ok (.invokestatic 156, 3) ∧ decode cX5_mostSettled 125 = .ok (.istore_n 2, 1) ∧ decode cX5_mostSettled 126 = .ok (.iinc 3 1, 3) ∧ decode cX5_mostSettled 129 = .ok (.goto (-30), 3) := by decide +kernel
theorem e_X5_mostSettled_7 : decode cX5_mostSettled 132 = .ok (.iload_n 2, 1) ∧ decode cX5_mostSettled 133 = .ok (.ireturn, 1) := by decide +kernel
abbrev E_X5_mostSettled_20 (G : Kg) (l1 l2 : Int) (σ : Kmem) (Q : Int → Kmem → Prop) : Prop := Ex G WX M_X5_mostSettled 4 0 0 20 [(0, vA G 82), (1, vI l1), (2, vI l2)] [] σ Q
abbrev E_X5_mostSettled_52 (G : Kg) (l1 l2 : Int) (σ : Kmem) (Q : Int → Kmem → Prop) : Prop := Ex G WX M_X5_mostSettled 4 0 0 52 [(0, vA G 82), (1, vI l1), (2, vI l2)] [] σ Q
abbrev E_X5_mostSettled_65 (G : Kg) (l1 l2 l3 : Int) (σ : Kmem) (Q : Int → Kmem → Prop) : Prop := Ex G WX M_X5_mostSettled 4 0 0 65 [(0, vA G 82), (1, vI l1), (2, vI l2), (3, vI l3)] [] σ Q
abbrev E_X5_mostSettled_99 (G : Kg) (l2 l3 : Int) (σ : Kmem) (Q : Int → Kmem → Prop) : Prop := Ex G WX M_X5_mostSettled 4 0 0 99 [(0, vA G 82), (2, vI l2), (3, vI l3)] [] σ Q
theorem S_X5_mostSettled {G : Kg} {σ : Kmem} {Q : Int → Kmem → Prop} {l1 : Int}  (h : Run G WX M_X0_hourOfDay 0 0 0 [vA G 31] σ (fun r1 s2 => Run G WX M_X8_look 3 0 0 [vA G 58, vA G 31, vI r1] s2 (fun r3 s4 => E_X5_mostSettled_20 G l1 0 s4 Q))) : Run G WX M_X5_mostSettled 4 0 0 [vA G 82, vI l1] σ Q := by
  refine Run.of (by decide +kernel) (by show (2 : Nat) ≤ 4; decide) ?_
  show Ex G WX M_X5_mostSettled 4 0 0 0 [(0, vA G 82), (1, vI l1)] [] σ Q
  refine R_aload_n e_X5_mostSettled_0.1 0 rfl ?_
  refine R_getA 5 1 58 e_X5_mostSettled_0.2.1 f_X5_68 kx_82 (fun _ _ => rfl) rx_82_1 (by decide) ?_
  refine R_aload_n e_X5_mostSettled_0.2.2.1 0 rfl ?_
  refine R_getA 5 0 31 e_X5_mostSettled_0.2.2.2.1 f_X5_64 kx_82 (fun _ _ => rfl) rx_82_0 (by decide) ?_
  refine R_aload_n e_X5_mostSettled_0.2.2.2.2.1 0 rfl ?_
  refine R_getA 5 0 31 e_X5_mostSettled_0.2.2.2.2.2.1 f_X5_64 kx_82 (fun _ _ => rfl) rx_82_0 (by decide) ?_
  refine R_callV (mc := 0) (ms := 0) (mc' := 0) (ms' := 0) (M' := M_X0_hourOfDay) (d' := 0) (as := []) (st := [vA G 31, vA G 58]) 0 0 e_X5_mostSettled_0.2.2.2.2.2.2.1 (kCVof m_X0_hourOfDay l_X5_145) rfl (by decide) (kC_self isC_31) (by decide) (by decide) rfl rfl (by show (2 : Nat) ≤ 8; decide) ?_
  refine Run.mono h (fun r1 s2 h => ?_)
  refine R_eqs (st2 := [vI r1, vA G 31, vA G 58]) rfl rfl ?_
  refine R_callV (mc := 0) (ms := 0) (mc' := 0) (ms' := 0) (M' := M_X8_look) (d' := 3) (as := [vA G 31, vI r1]) (st := []) 8 2 e_X5_mostSettled_0.2.2.2.2.2.2.2.1 (kCVof m_X8_look l_X5_148) rfl (by decide) kx_58 (by decide) (by decide) rfl rfl (by show (0 : Nat) ≤ 8; decide) ?_
  refine Run.mono h (fun r3 s4 h => ?_)
  refine R_eqs (st2 := []) rfl rfl ?_
  refine R_iconst e_X5_mostSettled_0.2.2.2.2.2.2.2.2.1 ?_
  refine R_istore_n (ls2 := [(2, vI 0), (0, vA G 82), (1, vI l1)]) e_X5_mostSettled_0.2.2.2.2.2.2.2.2.2 (by decide) rfl ?_
  refine R_ls (ls2 := [(0, vA G 82), (1, vI l1), (2, vI 0)]) [1, 2, 0] rfl ?_
  exact h
theorem S_X5_mostSettled_20 {G : Kg} {σ : Kmem} {Q : Int → Kmem → Prop} {l1 l2 : Int}  (h : (rI l2) ∧ ((64 ≤ l2 → E_X5_mostSettled_52 G l1 0 σ Q) ∧ (l2 < 64 → ((l2 ≠ 0 → (0 ≤ l2 ∧ l2 < 64) ∧ E_X5_mostSettled_20 G l1 (l2 + 1) (kup σ 88 l2 0) Q) ∧ (l2 = 0 → (0 ≤ l2 ∧ l2 < 64) ∧ E_X5_mostSettled_20 G l1 (l2 + 1) (kup σ 88 l2 1) Q))))) : E_X5_mostSettled_20 G l1 l2 σ Q := by
  refine R_iload_n e_X5_mostSettled_1.1 2 rfl ?_
  refine R_aload_n e_X5_mostSettled_1.2.1 0 rfl ?_
  refine R_getA 5 16 88 e_X5_mostSettled_1.2.2.1 f_X5_55 kx_82 (fun _ _ => rfl) rx_82_16 (by decide) ?_
  refine R_alen 23 64 64 e_X5_mostSettled_1.2.2.2.1 kxa_88 (by decide) rfl ?_
  obtain ⟨q5, h⟩ := h
  refine R_icmp_ge 50 e_X5_mostSettled_1.2.2.2.2.1 (by decide) q5 (by decide) (fun q => ?_) (fun q => ?_)
  · replace h := h.1 q
    refine R_iconst e_X5_mostSettled_2.2.2.2.2.2.2.1 ?_
    refine R_istore_n (ls2 := [(2, vI 0), (0, vA G 82), (1, vI l1)]) e_X5_mostSettled_2.2.2.2.2.2.2.2.1 (by decide) rfl ?_
    refine R_ls (ls2 := [(0, vA G 82), (1, vI l1), (2, vI 0)]) [1, 2, 0] rfl ?_
    exact h
  · replace h := h.2 q
    refine R_aload_n e_X5_mostSettled_1.2.2.2.2.2.1 0 rfl ?_
    refine R_getA 5 16 88 e_X5_mostSettled_1.2.2.2.2.2.2.1 f_X5_55 kx_82 (fun _ _ => rfl) rx_82_16 (by decide) ?_
    refine R_iload_n e_X5_mostSettled_1.2.2.2.2.2.2.2.1 2 rfl ?_
    refine R_iload_n e_X5_mostSettled_1.2.2.2.2.2.2.2.2.1 2 rfl ?_
    refine R_if_ne 42 e_X5_mostSettled_1.2.2.2.2.2.2.2.2.2 (by decide) q5  (fun q => ?_) (fun q => ?_)
    · replace h := h.1 q
      refine R_iconst e_X5_mostSettled_2.2.2.1 ?_
      obtain ⟨q6, h⟩ := h
      refine R_zast 64 WX_ok e_X5_mostSettled_2.2.2.2.1 kxa_88 q6 (Or.inl rfl) ?_
      refine R_iinc (ls2 := [(2, vI (l2 + 1)), (0, vA G 82), (1, vI l1)]) e_X5_mostSettled_2.2.2.2.2.1 2 rfl (by decide) rfl ?_
      refine R_goto 20 e_X5_mostSettled_2.2.2.2.2.2.1 (by decide) ?_
      refine R_ls (ls2 := [(0, vA G 82), (1, vI l1), (2, vI (l2 + 1))]) [1, 2, 0] rfl ?_
      exact h
    · replace h := h.2 q
      refine R_iconst e_X5_mostSettled_2.1 ?_
      refine R_goto 43 e_X5_mostSettled_2.2.1 (by decide) ?_
      obtain ⟨q7, h⟩ := h
      refine R_zast 64 WX_ok e_X5_mostSettled_2.2.2.2.1 kxa_88 q7 (Or.inr rfl) ?_
      refine R_iinc (ls2 := [(2, vI (l2 + 1)), (0, vA G 82), (1, vI l1)]) e_X5_mostSettled_2.2.2.2.2.1 2 rfl (by decide) rfl ?_
      refine R_goto 20 e_X5_mostSettled_2.2.2.2.2.2.1 (by decide) ?_
      refine R_ls (ls2 := [(0, vA G 82), (1, vI l1), (2, vI (l2 + 1))]) [1, 2, 0] rfl ?_
      exact h
theorem S_X5_mostSettled_52 {G : Kg} {σ : Kmem} {Q : Int → Kmem → Prop} {l1 l2 : Int}  (h : (rI l2) ∧ (rI (σ 31 1)) ∧ ((σ 31 1 ≤ l2 → E_X5_mostSettled_99 G 0 0 σ Q) ∧ (l2 < σ 31 1 → E_X5_mostSettled_65 G l1 l2 0 σ Q))) : E_X5_mostSettled_52 G l1 l2 σ Q := by
  refine R_iload_n e_X5_mostSettled_2.2.2.2.2.2.2.2.2.1 2 rfl ?_
  refine R_aload_n e_X5_mostSettled_2.2.2.2.2.2.2.2.2.2 0 rfl ?_
  refine R_getA 5 0 31 e_X5_mostSettled_3.1 f_X5_64 kx_82 (fun _ _ => rfl) rx_82_0 (by decide) ?_
  refine R_getI 0 1 1 e_X5_mostSettled_3.2.1 f_X5_84 (kC_self isC_31) (fun _ _ => rfl) rfl ?_
  obtain ⟨q8, h⟩ := h
  obtain ⟨q9, h⟩ := h
  refine R_icmp_ge 95 e_X5_mostSettled_3.2.2.1 (by decide) q8 q9 (fun q => ?_) (fun q => ?_)
  · replace h := h.1 q
    refine R_iconst e_X5_mostSettled_4.2.2.2.2.2.2.2.2.2 ?_
    refine R_istore_n (ls2 := [(2, vI 0), (0, vA G 82), (1, vI l1)]) e_X5_mostSettled_5.1 (by decide) rfl ?_
    refine R_iconst e_X5_mostSettled_5.2.1 ?_
    refine R_istore_n (ls2 := [(3, vI 0), (2, vI 0), (0, vA G 82), (1, vI l1)]) e_X5_mostSettled_5.2.2.1 (by decide) rfl ?_
    refine R_ls (ls2 := [(0, vA G 82), (2, vI 0), (3, vI 0)]) [2, 1, 0] rfl ?_
    exact h
  · replace h := h.2 q
    refine R_iconst e_X5_mostSettled_3.2.2.2.1 ?_
    refine R_istore_n (ls2 := [(3, vI 0), (0, vA G 82), (1, vI l1), (2, vI l2)]) e_X5_mostSettled_3.2.2.2.2.1 (by decide) rfl ?_
    refine R_ls (ls2 := [(0, vA G 82), (1, vI l1), (2, vI l2), (3, vI 0)]) [1, 2, 3, 0] rfl ?_
    exact h
theorem S_X5_mostSettled_99 {G : Kg} {σ : Kmem} {Q : Int → Kmem → Prop} {l1 l2 l3 : Int}  (h : (rI l3) ∧ ((64 ≤ l3 → Q l2 σ) ∧ (l3 < 64 → (0 ≤ l3 ∧ l3 < 64) ∧ (rI (σ 88 l3)) ∧ ((σ 88 l3 = 0 → E_X5_mostSettled_99 G l2 (l3 + 1) σ Q) ∧ (σ 88 l3 ≠ 0 → Run G WX M_J6_bitCount_0f7a4 0 0 0 [vI l3] σ (fun r13 s14 => Run G WX M_J9_max_7cf53 0 0 0 [vI l2, vI r13] s14 (fun r15 s16 => E_X5_mostSettled_99 G r15 (l3 + 1) s16 Q))))))) : E_X5_mostSettled_99 G l2 l3 σ Q := by
  refine R_iload_n e_X5_mostSettled_5.2.2.2.1 2 rfl ?_
  refine R_aload_n e_X5_mostSettled_5.2.2.2.2.1 0 rfl ?_
  refine R_getA 5 16 88 e_X5_mostSettled_5.2.2.2.2.2.1 f_X5_55 kx_82 (fun _ _ => rfl) rx_82_16 (by decide) ?_
  refine R_alen 23 64 64 e_X5_mostSettled_5.2.2.2.2.2.2.1 kxa_88 (by decide) rfl ?_
  obtain ⟨q10, h⟩ := h
  refine R_icmp_ge 132 e_X5_mostSettled_5.2.2.2.2.2.2.2.1 (by decide) q10 (by decide) (fun q => ?_) (fun q => ?_)
  · replace h := h.1 q
    refine R_iload_n e_X5_mostSettled_7.1 1 rfl ?_
    exact R_ireturn e_X5_mostSettled_7.2 rfl h
  · replace h := h.2 q
    refine R_aload_n e_X5_mostSettled_5.2.2.2.2.2.2.2.2.1 0 rfl ?_
    refine R_getA 5 16 88 e_X5_mostSettled_5.2.2.2.2.2.2.2.2.2 f_X5_55 kx_82 (fun _ _ => rfl) rx_82_16 (by decide) ?_
    refine R_iload_n e_X5_mostSettled_6.1 2 rfl ?_
    obtain ⟨q11, h⟩ := h
    refine R_zald 64 e_X5_mostSettled_6.2.1 kxa_88 q11 ?_
    obtain ⟨q12, h⟩ := h
    refine R_if_eq 126 e_X5_mostSettled_6.2.2.1 (by decide) q12  (fun q => ?_) (fun q => ?_)
    · replace h := h.1 q
      refine R_iinc (ls2 := [(3, vI (l3 + 1)), (0, vA G 82), (2, vI l2)]) e_X5_mostSettled_6.2.2.2.2.2.2.2.2.1 2 rfl (by decide) rfl ?_
      refine R_goto 99 e_X5_mostSettled_6.2.2.2.2.2.2.2.2.2 (by decide) ?_
      refine R_ls (ls2 := [(0, vA G 82), (2, vI l2), (3, vI (l3 + 1))]) [1, 2, 0] rfl ?_
      exact h
    · replace h := h.2 q
      refine R_iload_n e_X5_mostSettled_6.2.2.2.1 1 rfl ?_
      refine R_iload_n e_X5_mostSettled_6.2.2.2.2.1 2 rfl ?_
      refine R_callS (mc := 0) (ms := 0) (mc' := 0) (ms' := 0) (M' := M_J6_bitCount_0f7a4) (d' := 0) (as := [vI l3]) (st := [vI l2]) 1 e_X5_mostSettled_6.2.2.2.2.2.1 (kCSof m_J6_bitCount_0f7a4 l_X5_136) (by decide) (by decide) rfl rfl (by show (1 : Nat) ≤ 8; decide) ?_
      refine Run.mono h (fun r13 s14 h => ?_)
      refine R_eqs (st2 := [vI r13, vI l2]) rfl rfl ?_
      refine R_callS (mc := 0) (ms := 0) (mc' := 0) (ms' := 0) (M' := M_J9_max_7cf53) (d' := 0) (as := [vI l2, vI r13]) (st := []) 2 e_X5_mostSettled_6.2.2.2.2.2.2.1 (kCSof m_J9_max_7cf53 l_X5_156) (by decide) (by decide) rfl rfl (by show (0 : Nat) ≤ 8; decide) ?_
      refine Run.mono h (fun r15 s16 h => ?_)
      refine R_eqs (st2 := [vI r15]) rfl rfl ?_
      refine R_istore_n (ls2 := [(2, vI r15), (0, vA G 82), (3, vI l3)]) e_X5_mostSettled_6.2.2.2.2.2.2.2.1 (by decide) rfl ?_
      refine R_iinc (ls2 := [(3, vI (l3 + 1)), (2, vI r15), (0, vA G 82)]) e_X5_mostSettled_6.2.2.2.2.2.2.2.2.1 2 rfl (by decide) rfl ?_
      refine R_goto 99 e_X5_mostSettled_6.2.2.2.2.2.2.2.2.2 (by decide) ?_
      refine R_ls (ls2 := [(0, vA G 82), (2, vI r15), (3, vI (l3 + 1))]) [2, 1, 0] rfl ?_
      exact h
theorem S_X5_mostSettled_65 {G : Kg} {σ : Kmem} {Q : Int → Kmem → Prop} {l1 l2 l3 : Int}  (h : (rI l3) ∧ (rI (σ 31 0)) ∧ ((σ 31 0 ≤ l3 → E_X5_mostSettled_52 G l1 (l2 + 1) σ Q) ∧ (l3 < σ 31 0 → Run G WX M_X5_offerField 2 0 0 [vA G 82, vI l3, vI l2, vI l1] σ (fun r19 s20 => E_X5_mostSettled_65 G l1 l2 (l3 + 1) s20 Q)))) : E_X5_mostSettled_65 G l1 l2 l3 σ Q := by
  refine R_iload_n e_X5_mostSettled_3.2.2.2.2.2.1 3 rfl ?_
  refine R_aload_n e_X5_mostSettled_3.2.2.2.2.2.2.1 0 rfl ?_
  refine R_getA 5 0 31 e_X5_mostSettled_3.2.2.2.2.2.2.2.1 f_X5_64 kx_82 (fun _ _ => rfl) rx_82_0 (by decide) ?_
  refine R_getI 0 0 0 e_X5_mostSettled_3.2.2.2.2.2.2.2.2.1 f_X5_87 (kC_self isC_31) (fun _ _ => rfl) rfl ?_
  obtain ⟨q17, h⟩ := h
  obtain ⟨q18, h⟩ := h
  refine R_icmp_ge 89 e_X5_mostSettled_3.2.2.2.2.2.2.2.2.2 (by decide) q17 q18 (fun q => ?_) (fun q => ?_)
  · replace h := h.1 q
    refine R_iinc (ls2 := [(2, vI (l2 + 1)), (0, vA G 82), (1, vI l1), (3, vI l3)]) e_X5_mostSettled_4.2.2.2.2.2.2.2.1 2 rfl (by decide) rfl ?_
    refine R_goto 52 e_X5_mostSettled_4.2.2.2.2.2.2.2.2.1 (by decide) ?_
    refine R_ls (ls2 := [(0, vA G 82), (1, vI l1), (2, vI (l2 + 1))]) [1, 2, 0] rfl ?_
    exact h
  · replace h := h.2 q
    refine R_aload_n e_X5_mostSettled_4.1 0 rfl ?_
    refine R_iload_n e_X5_mostSettled_4.2.1 3 rfl ?_
    refine R_iload_n e_X5_mostSettled_4.2.2.1 2 rfl ?_
    refine R_iload_n e_X5_mostSettled_4.2.2.2.1 1 rfl ?_
    refine R_callV (mc := 0) (ms := 0) (mc' := 0) (ms' := 0) (M' := M_X5_offerField) (d' := 2) (as := [vI l3, vI l2, vI l1]) (st := []) 5 3 e_X5_mostSettled_4.2.2.2.2.1 (kCVof m_X5_offerField l_X5_152) rfl (by decide) kx_82 (by decide) (by decide) rfl rfl (by show (0 : Nat) ≤ 8; decide) ?_
    refine Run.mono h (fun r19 s20 h => ?_)
    refine R_eqs (st2 := []) rfl rfl ?_
    refine R_iinc (ls2 := [(3, vI (l3 + 1)), (0, vA G 82), (1, vI l1), (2, vI l2)]) e_X5_mostSettled_4.2.2.2.2.2.1 3 rfl (by decide) rfl ?_
    refine R_goto 65 e_X5_mostSettled_4.2.2.2.2.2.2.1 (by decide) ?_
    refine R_ls (ls2 := [(0, vA G 82), (1, vI l1), (2, vI l2), (3, vI (l3 + 1))]) [1, 2, 3, 0] rfl ?_
    exact h
/-! KiteLand$Plans.offerField(III)V -/
theorem e_X5_offerField_0 : decode cX5_offerField 0 = .ok (.aload_n 0, 1) ∧ decode cX5_offerField 1 = .ok (.getfield 68, 3) ∧ decode cX5_offerField 4 = .ok (.iload_n 1, 1) ∧ decode cX5_offerField 5 = .ok (.iload_n 2, 1) ∧ decode cX5_offerField 6 = .ok (.invokevirtual 90, 3) ∧ decode cX5_offerField 9 = .ok (.istore 4, 2) ∧ decode cX5_offerField 11 = .ok (.iload 4, 2) ∧ decode cX5_offerField 13 = .ok (.iconst (-1), 1) ∧ decode cX5_offerField 14 = .ok (.if_icmp .ne 4, 3) ∧ decode cX5_offerField 17 = .ok (.return_, 1) := by decide +kernel
theorem e_X5_offerField_1 : decode cX5_offerField 18 = .ok (.iconst 0, 1) ∧ decode cX5_offerField 19 = .ok (.istore 5, 2) ∧ decode cX5_offerField 21 = .ok (.iconst 0, 1) ∧ decode cX5_offerField 22 = .ok (.istore 6, 2) ∧ decode cX5_offerField 24 = .ok (.iload 6, 2) ∧ decode cX5_offerField 26 = .ok (.aload_n 0, 1) ∧ decode cX5_offerField 27 = .ok (.getfield 64, 3) ∧ decode cX5_offerField 30 = .ok (.getfield 161, 3) ∧ decode cX5_offerField 33 = .ok (.if_icmp .ge 55, 3) ∧ decode cX5_offerField 36 = .ok (.aload_n 0, 1) := by decide +kernel
theorem e_X5_offerField_2 : decode cX5_offerField 37 = .ok (.getfield 64, 3) ∧ decode cX5_offerField 40 = .ok (.getfield 164, 3) ∧ decode cX5_offerField 43 = .ok (.iload 6, 2) ∧ decode cX5_offerField 45 = .ok (.aaload, 1) ∧ decode cX5_offerField 46 = .ok (.getfield 168, 3) ∧ decode cX5_offerField 49 = .ok (.iload 4, 2) ∧ decode cX5_offerField 51 = .ok (.if_icmp .ne 31, 3) ∧ decode cX5_offerField 54 = .ok (.aload_n 0, 1) ∧ decode cX5_offerField 55 = .ok (.getfield 64, 3) ∧ decode cX5_offerField 58 = .ok (.getfield 164, 3) := by decide +kernel
theorem e_X5_offerField_3 : decode cX5_offerField 61 = .ok (.iload 6, 2) ∧ decode cX5_offerField 63 = .ok (.aaload, 1) ∧ decode cX5_offerField 64 = .ok (.iload_n 1, 1) ∧ decode cX5_offerField 65 = .ok (.iload_n 2, 1) ∧ decode cX5_offerField 66 = .ok (.invokevirtual 173, 3) ∧ decode cX5_offerField 69 = .ok (.iload_n 3, 1) ∧ decode cX5_offerField 70 = .ok (.if_icmp .gt 12, 3) ∧ decode cX5_offerField 73 = .ok (.iload 5, 2) ∧ decode cX5_offerField 75 = .ok (.iconst 1, 1) ∧ decode cX5_offerField 76 = .ok (.iload 6, 2) := by decide +kernel
theorem e_X5_offerField_4 : decode cX5_offerField 78 = .ok (.ishl, 1) ∧ decode cX5_offerField 79 = .ok (.ior, 1) ∧ decode cX5_offerField 80 = .ok (.istore 5, 2) ∧ decode cX5_offerField 82 = .ok (.iinc 6 1, 3) ∧ decode cX5_offerField 85 = .ok (.goto (-61), 3) ∧ decode cX5_offerField 88 = .ok (.aload_n 0, 1) ∧ decode cX5_offerField 89 = .ok (.getfield 55, 3) ∧ decode cX5_offerField 92 = .ok (.arraylength, 1) ∧ decode cX5_offerField 93 = .ok (.iconst 1, 1) ∧ decode cX5_offerField 94 = .ok (.isub, 1) := by decide +kernel
theorem e_X5_offerField_5 : decode cX5_offerField 95 = .ok (.istore 6, 2) ∧ decode cX5_offerField 97 = .ok (.iload 6, 2) ∧ decode cX5_offerField 99 = .ok (.ifCond .lt 68, 3) ∧ decode cX5_offerField 102 = .ok (.iconst 0, 1) ∧ decode cX5_offerField 103 = .ok (.istore 7, 2) ∧ decode cX5_offerField 105 = .ok (.aload_n 0, 1) ∧ decode cX5_offerField 106 = .ok (.getfield 55, 3) ∧ decode cX5_offerField 109 = .ok (.iload 6, 2) ∧ decode cX5_offerField 111 = .ok (.baload, 1) ∧ decode cX5_offerField 112 = .ok (.ifCond .eq 49, 3) := by decide +kernel
theorem e_X5_offerField_6 : decode cX5_offerField 115 = .ok (.iload 7, 2) ∧ decode cX5_offerField 117 = .ok (.aload_n 0, 1) ∧ decode cX5_offerField 118 = .ok (.getfield 64, 3) ∧ decode cX5_offerField 121 = .ok (.getfield 161, 3) ∧ decode cX5_offerField 124 = .ok (.if_icmp .ge 37, 3) ∧ decode cX5_offerField 127 = .ok (.iload 5, 2) ∧ decode cX5_offerField 129 = .ok (.iload 6, 2) ∧ decode cX5_offerField 131 = .ok (.iconst (-1), 1) ∧ decode cX5_offerField 132 = .ok (.ixor, 1) ∧ decode cX5_offerField 133 = .ok (.iand, 1) := by decide +kernel
theorem e_X5_offerField_7 : decode cX5_offerField 134 = .ok (.iconst 1, 1) ∧ decode cX5_offerField 135 = .ok (.iload 7, 2) ∧ decode cX5_offerField 137 = .ok (.ishl, 1) ∧ decode cX5_offerField 138 = .ok (.iand, 1) ∧ decode cX5_offerField 139 = .ok (.ifCond .eq 16, 3) ∧ decode cX5_offerField 142 = .ok (.aload_n 0, 1) ∧ decode cX5_offerField 143 = .ok (.getfield 55, 3) ∧ decode cX5_offerField 146 = .ok (.iload 6, 2) ∧ decode cX5_offerField 148 = .ok (.iconst 1, 1) ∧ decode cX5_offerField 149 = .ok (.iload 7, 2) := by decide +kernel
theorem e_X5_offerField_8 : decode cX5_offerField 151 = .ok (.ishl, 1) ∧ decode cX5_offerField 152 = .ok (.ior, 1) ∧ decode cX5_offerField 153 = .ok (.iconst 1, 1) ∧ decode cX5_offerField 154 = .ok (.bastore, 1) ∧ decode cX5_offerField 155 = .ok (.iinc 7 1, 3) ∧ decode cX5_offerField 158 = .ok (.goto (-53), 3) ∧ decode cX5_offerField 161 = .ok (.iinc 6 (-1), 3) ∧ decode cX5_offerField 164 = .ok (.goto (-67), 3) ∧ decode cX5_offerField 167 = .ok (.return_, 1) := by decide +kernel
abbrev E_X5_offerField_24 (G : Kg) (l1 l2 l3 l4 l5 l6 : Int) (σ : Kmem) (Q : Int → Kmem → Prop) : Prop := Ex G WX M_X5_offerField 2 0 0 24 [(0, vA G 82), (1, vI l1), (2, vI l2), (3, vI l3), (4, vI l4), (5, vI l5), (6, vI l6)] [] σ Q
abbrev E_X5_offerField_97 (G : Kg) (l5 l6 : Int) (σ : Kmem) (Q : Int → Kmem → Prop) : Prop := Ex G WX M_X5_offerField 2 0 0 97 [(0, vA G 82), (5, vI l5), (6, vI l6)] [] σ Q
abbrev E_X5_offerField_105 (G : Kg) (l5 l6 l7 : Int) (σ : Kmem) (Q : Int → Kmem → Prop) : Prop := Ex G WX M_X5_offerField 2 0 0 105 [(0, vA G 82), (5, vI l5), (6, vI l6), (7, vI l7)] [] σ Q
theorem S_X5_offerField {G : Kg} {σ : Kmem} {Q : Int → Kmem → Prop} {l1 l2 l3 : Int}  (h : Run G WX M_X8_ownerOf 0 0 0 [vA G 58, vI l1, vI l2] σ (fun r1 s2 => (rI r1) ∧ ((r1 ≠ -1 → E_X5_offerField_24 G l1 l2 l3 r1 0 0 s2 Q) ∧ (r1 = -1 → Q 0 s2)))) : Run G WX M_X5_offerField 2 0 0 [vA G 82, vI l1, vI l2, vI l3] σ Q := by
  refine Run.of (by decide +kernel) (by show (4 : Nat) ≤ 8; decide) ?_
  show Ex G WX M_X5_offerField 2 0 0 0 [(0, vA G 82), (1, vI l1), (2, vI l2), (3, vI l3)] [] σ Q
  refine R_aload_n e_X5_offerField_0.1 0 rfl ?_
  refine R_getA 5 1 58 e_X5_offerField_0.2.1 f_X5_68 kx_82 (fun _ _ => rfl) rx_82_1 (by decide) ?_
  refine R_iload_n e_X5_offerField_0.2.2.1 1 rfl ?_
  refine R_iload_n e_X5_offerField_0.2.2.2.1 2 rfl ?_
  refine R_callV (mc := 0) (ms := 0) (mc' := 0) (ms' := 0) (M' := M_X8_ownerOf) (d' := 0) (as := [vI l1, vI l2]) (st := []) 8 2 e_X5_offerField_0.2.2.2.2.1 (kCVof m_X8_ownerOf l_X5_90) rfl (by decide) kx_58 (by decide) (by decide) rfl rfl (by show (0 : Nat) ≤ 8; decide) ?_
  refine Run.mono h (fun r1 s2 h => ?_)
  refine R_eqs (st2 := [vI r1]) rfl rfl ?_
  refine R_istore (ls2 := [(4, vI r1), (0, vA G 82), (1, vI l1), (2, vI l2), (3, vI l3)]) e_X5_offerField_0.2.2.2.2.2.1 (by decide) rfl ?_
  refine R_iload e_X5_offerField_0.2.2.2.2.2.2.1 0 rfl ?_
  refine R_iconst e_X5_offerField_0.2.2.2.2.2.2.2.1 ?_
  obtain ⟨q3, h⟩ := h
  refine R_icmp_ne 18 e_X5_offerField_0.2.2.2.2.2.2.2.2.1 (by decide) q3 (by decide) (fun q => ?_) (fun q => ?_)
  · replace h := h.1 q
    refine R_iconst e_X5_offerField_1.1 ?_
    refine R_istore (ls2 := [(5, vI 0), (4, vI r1), (0, vA G 82), (1, vI l1), (2, vI l2), (3, vI l3)]) e_X5_offerField_1.2.1 (by decide) rfl ?_
    refine R_iconst e_X5_offerField_1.2.2.1 ?_
    refine R_istore (ls2 := [(6, vI 0), (5, vI 0), (4, vI r1), (0, vA G 82), (1, vI l1), (2, vI l2), (3, vI l3)]) e_X5_offerField_1.2.2.2.1 (by decide) rfl ?_
    refine R_ls (ls2 := [(0, vA G 82), (1, vI l1), (2, vI l2), (3, vI l3), (4, vI r1), (5, vI 0), (6, vI 0)]) [3, 4, 5, 6, 2, 1, 0] rfl ?_
    exact h
  · replace h := h.2 q
    exact R_return e_X5_offerField_0.2.2.2.2.2.2.2.2.2 rfl h
theorem S_X5_offerField_24 {G : Kg} {σ : Kmem} {Q : Int → Kmem → Prop} {l1 l2 l3 l4 l5 l6 : Int}  (h : (rI l6) ∧ (rI (σ 31 7)) ∧ ((σ 31 7 ≤ l6 → E_X5_offerField_97 G l5 (64 - 1) σ Q) ∧ (l6 < σ 31 7 → (0 ≤ l6 ∧ l6 < 6) ∧ (rI (σ (31 + 20 + l6) 3)) ∧ (rI l4) ∧ ((σ (31 + 20 + l6) 3 ≠ l4 → E_X5_offerField_24 G l1 l2 l3 l4 l5 (l6 + 1) σ Q) ∧ (σ (31 + 20 + l6) 3 = l4 → (0 ≤ l6 ∧ l6 < 6) ∧ Run G WX M_X9_stepsTo 1 0 0 [vA G (31 + 20 + l6), vI l1, vI l2] σ (fun r10 s11 => (rI r10) ∧ (rI l3) ∧ ((l3 < r10 → E_X5_offerField_24 G l1 l2 l3 l4 l5 (l6 + 1) s11 Q) ∧ (r10 ≤ l3 → E_X5_offerField_24 G l1 l2 l3 l4 (kor l5 (kshl 1 l6)) (l6 + 1) s11 Q)))))))) : E_X5_offerField_24 G l1 l2 l3 l4 l5 l6 σ Q := by
  refine R_iload e_X5_offerField_1.2.2.2.2.1 6 rfl ?_
  refine R_aload_n e_X5_offerField_1.2.2.2.2.2.1 0 rfl ?_
  refine R_getA 5 0 31 e_X5_offerField_1.2.2.2.2.2.2.1 f_X5_64 kx_82 (fun _ _ => rfl) rx_82_0 (by decide) ?_
  refine R_getI 0 7 7 e_X5_offerField_1.2.2.2.2.2.2.2.1 f_X5_161 (kC_self isC_31) (fun _ _ => rfl) rfl ?_
  obtain ⟨q4, h⟩ := h
  obtain ⟨q5, h⟩ := h
  refine R_icmp_ge 88 e_X5_offerField_1.2.2.2.2.2.2.2.2.1 (by decide) q4 q5 (fun q => ?_) (fun q => ?_)
  · replace h := h.1 q
    refine R_aload_n e_X5_offerField_4.2.2.2.2.2.1 0 rfl ?_
    refine R_getA 5 16 88 e_X5_offerField_4.2.2.2.2.2.2.1 f_X5_55 kx_82 (fun _ _ => rfl) rx_82_16 (by decide) ?_
    refine R_alen 23 64 64 e_X5_offerField_4.2.2.2.2.2.2.2.1 kxa_88 (by decide) rfl ?_
    refine R_iconst e_X5_offerField_4.2.2.2.2.2.2.2.2.1 ?_
    refine R_isub e_X5_offerField_4.2.2.2.2.2.2.2.2.2 ?_
    refine R_istore (ls2 := [(6, vI (64 - 1)), (0, vA G 82), (1, vI l1), (2, vI l2), (3, vI l3), (4, vI l4), (5, vI l5)]) e_X5_offerField_5.1 (by decide) rfl ?_
    refine R_ls (ls2 := [(0, vA G 82), (5, vI l5), (6, vI (64 - 1))]) [1, 6, 0] rfl ?_
    exact h
  · replace h := h.2 q
    refine R_aload_n e_X5_offerField_1.2.2.2.2.2.2.2.2.2 0 rfl ?_
    refine R_getA 5 0 31 e_X5_offerField_2.1 f_X5_64 kx_82 (fun _ _ => rfl) rx_82_0 (by decide) ?_
    refine R_getA 0 12 (31 + 5) e_X5_offerField_2.2.1 f_X5_164 (kC_self isC_31) (fun _ _ => rfl) (kC_r12 isC_31) (kC_n5 isC_31) ?_
    refine R_iload e_X5_offerField_2.2.2.1 6 rfl ?_
    obtain ⟨q6, h⟩ := h
    refine R_aald 29 6 (31 + 20 + l6) e_X5_offerField_2.2.2.2.1 (by decide) (kC_tens isC_31) q6 (kC_tenAt isC_31 q6) (kC_tenN isC_31 q6) ?_
    refine R_getI 9 3 3 e_X5_offerField_2.2.2.2.2.1 f_X5_168 (kC_ten isC_31 q6) (fun _ _ => rfl) rfl ?_
    refine R_iload e_X5_offerField_2.2.2.2.2.2.1 4 rfl ?_
    obtain ⟨q7, h⟩ := h
    obtain ⟨q8, h⟩ := h
    refine R_icmp_ne 82 e_X5_offerField_2.2.2.2.2.2.2.1 (by decide) q7 q8 (fun q => ?_) (fun q => ?_)
    · replace h := h.1 q
      refine R_iinc (ls2 := [(6, vI (l6 + 1)), (0, vA G 82), (1, vI l1), (2, vI l2), (3, vI l3), (4, vI l4), (5, vI l5)]) e_X5_offerField_4.2.2.2.1 6 rfl (by decide) rfl ?_
      refine R_goto 24 e_X5_offerField_4.2.2.2.2.1 (by decide) ?_
      refine R_ls (ls2 := [(0, vA G 82), (1, vI l1), (2, vI l2), (3, vI l3), (4, vI l4), (5, vI l5), (6, vI (l6 + 1))]) [1, 2, 3, 4, 5, 6, 0] rfl ?_
      exact h
    · replace h := h.2 q
      refine R_aload_n e_X5_offerField_2.2.2.2.2.2.2.2.1 0 rfl ?_
      refine R_getA 5 0 31 e_X5_offerField_2.2.2.2.2.2.2.2.2.1 f_X5_64 kx_82 (fun _ _ => rfl) rx_82_0 (by decide) ?_
      refine R_getA 0 12 (31 + 5) e_X5_offerField_2.2.2.2.2.2.2.2.2.2 f_X5_164 (kC_self isC_31) (fun _ _ => rfl) (kC_r12 isC_31) (kC_n5 isC_31) ?_
      refine R_iload e_X5_offerField_3.1 6 rfl ?_
      obtain ⟨q9, h⟩ := h
      refine R_aald 29 6 (31 + 20 + l6) e_X5_offerField_3.2.1 (by decide) (kC_tens isC_31) q9 (kC_tenAt isC_31 q9) (kC_tenN isC_31 q9) ?_
      refine R_iload_n e_X5_offerField_3.2.2.1 1 rfl ?_
      refine R_iload_n e_X5_offerField_3.2.2.2.1 2 rfl ?_
      refine R_callV (mc := 0) (ms := 0) (mc' := 0) (ms' := 0) (M' := M_X9_stepsTo) (d' := 1) (as := [vI l1, vI l2]) (st := []) 9 2 e_X5_offerField_3.2.2.2.2.1 (kCVof m_X9_stepsTo l_X5_173) rfl (by decide) (kC_ten isC_31 q9) (by decide) (by decide) rfl rfl (by show (0 : Nat) ≤ 8; decide) ?_
      refine Run.mono h (fun r10 s11 h => ?_)
      refine R_eqs (st2 := [vI r10]) rfl rfl ?_
      refine R_iload_n e_X5_offerField_3.2.2.2.2.2.1 3 rfl ?_
      obtain ⟨q12, h⟩ := h
      obtain ⟨q13, h⟩ := h
      refine R_icmp_gt 82 e_X5_offerField_3.2.2.2.2.2.2.1 (by decide) q12 q13 (fun q => ?_) (fun q => ?_)
      · replace h := h.1 q
        refine R_iinc (ls2 := [(6, vI (l6 + 1)), (0, vA G 82), (1, vI l1), (2, vI l2), (3, vI l3), (4, vI l4), (5, vI l5)]) e_X5_offerField_4.2.2.2.1 6 rfl (by decide) rfl ?_
        refine R_goto 24 e_X5_offerField_4.2.2.2.2.1 (by decide) ?_
        refine R_ls (ls2 := [(0, vA G 82), (1, vI l1), (2, vI l2), (3, vI l3), (4, vI l4), (5, vI l5), (6, vI (l6 + 1))]) [1, 2, 3, 4, 5, 6, 0] rfl ?_
        exact h
      · replace h := h.2 q
        refine R_iload e_X5_offerField_3.2.2.2.2.2.2.2.1 5 rfl ?_
        refine R_iconst e_X5_offerField_3.2.2.2.2.2.2.2.2.1 ?_
        refine R_iload e_X5_offerField_3.2.2.2.2.2.2.2.2.2 6 rfl ?_
        refine R_ishl e_X5_offerField_4.1 ?_
        refine R_ior e_X5_offerField_4.2.1 ?_
        refine R_istore (ls2 := [(5, vI (kor l5 (kshl 1 l6))), (0, vA G 82), (1, vI l1), (2, vI l2), (3, vI l3), (4, vI l4), (6, vI l6)]) e_X5_offerField_4.2.2.1 (by decide) rfl ?_
        refine R_iinc (ls2 := [(6, vI (l6 + 1)), (5, vI (kor l5 (kshl 1 l6))), (0, vA G 82), (1, vI l1), (2, vI l2), (3, vI l3), (4, vI l4)]) e_X5_offerField_4.2.2.2.1 6 rfl (by decide) rfl ?_
        refine R_goto 24 e_X5_offerField_4.2.2.2.2.1 (by decide) ?_
        refine R_ls (ls2 := [(0, vA G 82), (1, vI l1), (2, vI l2), (3, vI l3), (4, vI l4), (5, vI (kor l5 (kshl 1 l6))), (6, vI (l6 + 1))]) [2, 3, 4, 5, 6, 1, 0] rfl ?_
        exact h
theorem S_X5_offerField_97 {G : Kg} {σ : Kmem} {Q : Int → Kmem → Prop} {l1 l2 l3 l5 l6 : Int}  (h : (rI l6) ∧ ((l6 < 0 → Q 0 σ) ∧ (0 ≤ l6 → E_X5_offerField_105 G l5 l6 0 σ Q))) : E_X5_offerField_97 G l5 l6 σ Q := by
  refine R_iload e_X5_offerField_5.2.1 2 rfl ?_
  obtain ⟨q14, h⟩ := h
  refine R_if_lt 167 e_X5_offerField_5.2.2.1 (by decide) q14  (fun q => ?_) (fun q => ?_)
  · replace h := h.1 q
    exact R_return e_X5_offerField_8.2.2.2.2.2.2.2.2 rfl h
  · replace h := h.2 q
    refine R_iconst e_X5_offerField_5.2.2.2.1 ?_
    refine R_istore (ls2 := [(7, vI 0), (0, vA G 82), (5, vI l5), (6, vI l6)]) e_X5_offerField_5.2.2.2.2.1 (by decide) rfl ?_
    refine R_ls (ls2 := [(0, vA G 82), (5, vI l5), (6, vI l6), (7, vI 0)]) [1, 2, 3, 0] rfl ?_
    exact h
theorem S_X5_offerField_105 {G : Kg} {σ : Kmem} {Q : Int → Kmem → Prop} {l1 l2 l3 l5 l6 l7 : Int}  (h : (0 ≤ l6 ∧ l6 < 64) ∧ (rI (σ 88 l6)) ∧ ((σ 88 l6 = 0 → E_X5_offerField_97 G l5 (l6 + (-1)) σ Q) ∧ (σ 88 l6 ≠ 0 → (rI l7) ∧ (rI (σ 31 7)) ∧ ((σ 31 7 ≤ l7 → E_X5_offerField_97 G l5 (l6 + (-1)) σ Q) ∧ (l7 < σ 31 7 → (rI (kand (kand l5 (kxor l6 (-1))) (kshl 1 l7))) ∧ ((kand (kand l5 (kxor l6 (-1))) (kshl 1 l7) = 0 → E_X5_offerField_105 G l5 l6 (l7 + 1) σ Q) ∧ (kand (kand l5 (kxor l6 (-1))) (kshl 1 l7) ≠ 0 → (0 ≤ kor l6 (kshl 1 l7) ∧ kor l6 (kshl 1 l7) < 64) ∧ E_X5_offerField_105 G l5 l6 (l7 + 1) (kup σ 88 (kor l6 (kshl 1 l7)) 1) Q))))))) : E_X5_offerField_105 G l5 l6 l7 σ Q := by
  refine R_aload_n e_X5_offerField_5.2.2.2.2.2.1 0 rfl ?_
  refine R_getA 5 16 88 e_X5_offerField_5.2.2.2.2.2.2.1 f_X5_55 kx_82 (fun _ _ => rfl) rx_82_16 (by decide) ?_
  refine R_iload e_X5_offerField_5.2.2.2.2.2.2.2.1 2 rfl ?_
  obtain ⟨q15, h⟩ := h
  refine R_zald 64 e_X5_offerField_5.2.2.2.2.2.2.2.2.1 kxa_88 q15 ?_
  obtain ⟨q16, h⟩ := h
  refine R_if_eq 161 e_X5_offerField_5.2.2.2.2.2.2.2.2.2 (by decide) q16  (fun q => ?_) (fun q => ?_)
  · replace h := h.1 q
    refine R_iinc (ls2 := [(6, vI (l6 + (-1))), (0, vA G 82), (5, vI l5), (7, vI l7)]) e_X5_offerField_8.2.2.2.2.2.2.1 2 rfl (by decide) rfl ?_
    refine R_goto 97 e_X5_offerField_8.2.2.2.2.2.2.2.1 (by decide) ?_
    refine R_ls (ls2 := [(0, vA G 82), (5, vI l5), (6, vI (l6 + (-1)))]) [1, 2, 0] rfl ?_
    exact h
  · replace h := h.2 q
    refine R_iload e_X5_offerField_6.1 3 rfl ?_
    refine R_aload_n e_X5_offerField_6.2.1 0 rfl ?_
    refine R_getA 5 0 31 e_X5_offerField_6.2.2.1 f_X5_64 kx_82 (fun _ _ => rfl) rx_82_0 (by decide) ?_
    refine R_getI 0 7 7 e_X5_offerField_6.2.2.2.1 f_X5_161 (kC_self isC_31) (fun _ _ => rfl) rfl ?_
    obtain ⟨q17, h⟩ := h
    obtain ⟨q18, h⟩ := h
    refine R_icmp_ge 161 e_X5_offerField_6.2.2.2.2.1 (by decide) q17 q18 (fun q => ?_) (fun q => ?_)
    · replace h := h.1 q
      refine R_iinc (ls2 := [(6, vI (l6 + (-1))), (0, vA G 82), (5, vI l5), (7, vI l7)]) e_X5_offerField_8.2.2.2.2.2.2.1 2 rfl (by decide) rfl ?_
      refine R_goto 97 e_X5_offerField_8.2.2.2.2.2.2.2.1 (by decide) ?_
      refine R_ls (ls2 := [(0, vA G 82), (5, vI l5), (6, vI (l6 + (-1)))]) [1, 2, 0] rfl ?_
      exact h
    · replace h := h.2 q
      refine R_iload e_X5_offerField_6.2.2.2.2.2.1 1 rfl ?_
      refine R_iload e_X5_offerField_6.2.2.2.2.2.2.1 2 rfl ?_
      refine R_iconst e_X5_offerField_6.2.2.2.2.2.2.2.1 ?_
      refine R_ixor e_X5_offerField_6.2.2.2.2.2.2.2.2.1 ?_
      refine R_iand e_X5_offerField_6.2.2.2.2.2.2.2.2.2 ?_
      refine R_iconst e_X5_offerField_7.1 ?_
      refine R_iload e_X5_offerField_7.2.1 3 rfl ?_
      refine R_ishl e_X5_offerField_7.2.2.1 ?_
      refine R_iand e_X5_offerField_7.2.2.2.1 ?_
      obtain ⟨q19, h⟩ := h
      refine R_if_eq 155 e_X5_offerField_7.2.2.2.2.1 (by decide) q19  (fun q => ?_) (fun q => ?_)
      · replace h := h.1 q
        refine R_iinc (ls2 := [(7, vI (l7 + 1)), (0, vA G 82), (5, vI l5), (6, vI l6)]) e_X5_offerField_8.2.2.2.2.1 3 rfl (by decide) rfl ?_
        refine R_goto 105 e_X5_offerField_8.2.2.2.2.2.1 (by decide) ?_
        refine R_ls (ls2 := [(0, vA G 82), (5, vI l5), (6, vI l6), (7, vI (l7 + 1))]) [1, 2, 3, 0] rfl ?_
        exact h
      · replace h := h.2 q
        refine R_aload_n e_X5_offerField_7.2.2.2.2.2.1 0 rfl ?_
        refine R_getA 5 16 88 e_X5_offerField_7.2.2.2.2.2.2.1 f_X5_55 kx_82 (fun _ _ => rfl) rx_82_16 (by decide) ?_
        refine R_iload e_X5_offerField_7.2.2.2.2.2.2.2.1 2 rfl ?_
        refine R_iconst e_X5_offerField_7.2.2.2.2.2.2.2.2.1 ?_
        refine R_iload e_X5_offerField_7.2.2.2.2.2.2.2.2.2 3 rfl ?_
        refine R_ishl e_X5_offerField_8.1 ?_
        refine R_ior e_X5_offerField_8.2.1 ?_
        refine R_iconst e_X5_offerField_8.2.2.1 ?_
        obtain ⟨q20, h⟩ := h
        refine R_zast 64 WX_ok e_X5_offerField_8.2.2.2.1 kxa_88 q20 (Or.inr rfl) ?_
        refine R_iinc (ls2 := [(7, vI (l7 + 1)), (0, vA G 82), (5, vI l5), (6, vI l6)]) e_X5_offerField_8.2.2.2.2.1 3 rfl (by decide) rfl ?_
        refine R_goto 105 e_X5_offerField_8.2.2.2.2.2.1 (by decide) ?_
        refine R_ls (ls2 := [(0, vA G 82), (5, vI l5), (6, vI l6), (7, vI (l7 + 1))]) [1, 2, 3, 0] rfl ?_
        exact h
/-! KiteLand$Plans.countStrips(I)V -/
theorem e_X5_countStrips_0 : decode cX5_countStrips 0 = .ok (.iconst 0, 1) ∧ decode cX5_countStrips 1 = .ok (.istore_n 2, 1) ∧ decode cX5_countStrips 2 = .ok (.iload_n 2, 1) ∧ decode cX5_countStrips 3 = .ok (.bipush 6, 2) ∧ decode cX5_countStrips 5 = .ok (.if_icmp .ge 32, 3) ∧ decode cX5_countStrips 8 = .ok (.iconst 0, 1) ∧ decode cX5_countStrips 9 = .ok (.istore_n 3, 1) ∧ decode cX5_countStrips 10 = .ok (.iload_n 3, 1) ∧ decode cX5_countStrips 11 = .ok (.bipush 9, 2) ∧ decode cX5_countStrips 13 = .ok (.if_icmp .ge 18, 3) := by decide +kernel
theorem e_X5_countStrips_1 : decode cX5_countStrips 16 = .ok (.aload_n 0, 1) ∧ decode cX5_countStrips 17 = .ok (.getfield 61, 3) ∧ decode cX5_countStrips 20 = .ok (.iload_n 2, 1) ∧ decode cX5_countStrips 21 = .ok (.aaload, 1) ∧ decode cX5_countStrips 22 = .ok (.iload_n 3, 1) ∧ decode cX5_countStrips 23 = .ok (.iconst 0, 1) ∧ decode cX5_countStrips 24 = .ok (.iastore, 1) ∧ decode cX5_countStrips 25 = .ok (.iinc 3 1, 3) ∧ decode cX5_countStrips 28 = .ok (.goto (-18), 3) ∧ decode cX5_countStrips 31 = .ok (.iinc 2 1, 3) := by decide +kernel
theorem e_X5_countStrips_2 : decode cX5_countStrips 34 = .ok (.goto (-32), 3) ∧ decode cX5_countStrips 37 = .ok (.iconst 0, 1) ∧ decode cX5_countStrips 38 = .ok (.istore_n 2, 1) ∧ decode cX5_countStrips 39 = .ok (.iload_n 2, 1) ∧ decode cX5_countStrips 40 = .ok (.bipush 12, 2) ∧ decode cX5_countStrips 42 = .ok (.if_icmp .ge 87, 3) ∧ decode cX5_countStrips 45 = .ok (.aload_n 0, 1) ∧ decode cX5_countStrips 46 = .ok (.getfield 68, 3) ∧ decode cX5_countStrips 49 = .ok (.aload_n 0, 1) ∧ decode cX5_countStrips 50 = .ok (.getfield 64, 3) := by decide +kernel
theorem e_X5_countStrips_3 : decode cX5_countStrips 53 = .ok (.iload_n 2, 1) ∧ decode cX5_countStrips 54 = .ok (.invokevirtual 176, 3) ∧ decode cX5_countStrips 57 = .ok (.iconst 0, 1) ∧ decode cX5_countStrips 58 = .ok (.istore_n 3, 1) ∧ decode cX5_countStrips 59 = .ok (.iload_n 3, 1) ∧ decode cX5_countStrips 60 = .ok (.aload_n 0, 1) ∧ decode cX5_countStrips 61 = .ok (.getfield 64, 3) ∧ decode cX5_countStrips 64 = .ok (.getfield 179, 3) ∧ decode cX5_countStrips 67 = .ok (.if_icmp .ge 56, 3) ∧ decode cX5_countStrips 70 = .ok (.iconst 0, 1) := by decide +kernel
theorem e_X5_countStrips_4 : decode cX5_countStrips 71 = .ok (.istore 4, 2) ∧ decode cX5_countStrips 73 = .ok (.iload 4, 2) ∧ decode cX5_countStrips 75 = .ok (.aload_n 0, 1) ∧ decode cX5_countStrips 76 = .ok (.getfield 64, 3) ∧ decode cX5_countStrips 79 = .ok (.getfield 87, 3) ∧ decode cX5_countStrips 82 = .ok (.if_icmp .ge 35, 3) ∧ decode cX5_countStrips 85 = .ok (.aload_n 0, 1) ∧ decode cX5_countStrips 86 = .ok (.getfield 61, 3) ∧ decode cX5_countStrips 89 = .ok (.iload_n 3, 1) ∧ decode cX5_countStrips 90 = .ok (.aaload, 1) := by decide +kernel
theorem e_X5_countStrips_5 : decode cX5_countStrips 91 = .ok (.iload 4, 2) ∧ decode cX5_countStrips 93 = .ok (.dup2, 1) ∧ decode cX5_countStrips 94 = .ok (.iaload, 1) ∧ decode cX5_countStrips 95 = .ok (.aload_n 0, 1) ∧ decode cX5_countStrips 96 = .ok (.getfield 68, 3) ∧ decode cX5_countStrips 99 = .ok (.iload 4, 2) ∧ decode cX5_countStrips 101 = .ok (.iload_n 1, 1) ∧ decode cX5_countStrips 102 = .ok (.invokevirtual 133, 3) ∧ decode cX5_countStrips 105 = .ok (.iload_n 3, 1) ∧ decode cX5_countStrips 106 = .ok (.ishr, 1) := by decide +kernel
theorem e_X5_countStrips_6 : decode cX5_countStrips 107 = .ok (.iconst 1, 1) ∧ decode cX5_countStrips 108 = .ok (.iand, 1) ∧ decode cX5_countStrips 109 = .ok (.iadd, 1) ∧ decode cX5_countStrips 110 = .ok (.iastore, 1) ∧ decode cX5_countStrips 111 = .ok (.iinc 4 1, 3) ∧ decode cX5_countStrips 114 = .ok (.goto (-41), 3) ∧ decode cX5_countStrips 117 = .ok (.iinc 3 1, 3) ∧ decode cX5_countStrips 120 = .ok (.goto (-61), 3) ∧ decode cX5_countStrips 123 = .ok (.iinc 2 1, 3) ∧ decode cX5_countStrips 126 = .ok (.goto (-87), 3) := by decide +kernel
theorem e_X5_countStrips_7 : decode cX5_countStrips 129 = .ok (.return_, 1) := by decide +kernel
abbrev E_X5_countStrips_2 (G : Kg) (l1 l2 : Int) (σ : Kmem) (Q : Int → Kmem → Prop) : Prop := Ex G WX M_X5_countStrips 4 0 0 2 [(0, vA G 82), (1, vI l1), (2, vI l2)] [] σ Q
abbrev E_X5_countStrips_10 (G : Kg) (l1 l2 l3 : Int) (σ : Kmem) (Q : Int → Kmem → Prop) : Prop := Ex G WX M_X5_countStrips 4 0 0 10 [(0, vA G 82), (1, vI l1), (2, vI l2), (3, vI l3)] [] σ Q
abbrev E_X5_countStrips_39 (G : Kg) (l1 l2 : Int) (σ : Kmem) (Q : Int → Kmem → Prop) : Prop := Ex G WX M_X5_countStrips 4 0 0 39 [(0, vA G 82), (1, vI l1), (2, vI l2)] [] σ Q
abbrev E_X5_countStrips_59 (G : Kg) (l1 l2 l3 : Int) (σ : Kmem) (Q : Int → Kmem → Prop) : Prop := Ex G WX M_X5_countStrips 4 0 0 59 [(0, vA G 82), (1, vI l1), (2, vI l2), (3, vI l3)] [] σ Q
abbrev E_X5_countStrips_73 (G : Kg) (l1 l2 l3 l4 : Int) (σ : Kmem) (Q : Int → Kmem → Prop) : Prop := Ex G WX M_X5_countStrips 4 0 0 73 [(0, vA G 82), (1, vI l1), (2, vI l2), (3, vI l3), (4, vI l4)] [] σ Q
theorem S_X5_countStrips {G : Kg} {σ : Kmem} {Q : Int → Kmem → Prop} {l1 : Int}  (h : E_X5_countStrips_2 G l1 0 σ Q) : Run G WX M_X5_countStrips 4 0 0 [vA G 82, vI l1] σ Q := by
  refine Run.of (by decide +kernel) (by show (2 : Nat) ≤ 5; decide) ?_
  show Ex G WX M_X5_countStrips 4 0 0 0 [(0, vA G 82), (1, vI l1)] [] σ Q
  refine R_iconst e_X5_countStrips_0.1 ?_
  refine R_istore_n (ls2 := [(2, vI 0), (0, vA G 82), (1, vI l1)]) e_X5_countStrips_0.2.1 (by decide) rfl ?_
  refine R_ls (ls2 := [(0, vA G 82), (1, vI l1), (2, vI 0)]) [1, 2, 0] rfl ?_
  exact h
theorem S_X5_countStrips_2 {G : Kg} {σ : Kmem} {Q : Int → Kmem → Prop} {l1 l2 : Int}  (h : (rI l2) ∧ ((6 ≤ l2 → E_X5_countStrips_39 G l1 0 σ Q) ∧ (l2 < 6 → E_X5_countStrips_10 G l1 l2 0 σ Q))) : E_X5_countStrips_2 G l1 l2 σ Q := by
  refine R_iload_n e_X5_countStrips_0.2.2.1 2 rfl ?_
  refine R_bipush e_X5_countStrips_0.2.2.2.1 (by decide) ?_
  obtain ⟨q1, h⟩ := h
  refine R_icmp_ge 37 e_X5_countStrips_0.2.2.2.2.1 (by decide) q1 (by decide) (fun q => ?_) (fun q => ?_)
  · replace h := h.1 q
    refine R_iconst e_X5_countStrips_2.2.1 ?_
    refine R_istore_n (ls2 := [(2, vI 0), (0, vA G 82), (1, vI l1)]) e_X5_countStrips_2.2.2.1 (by decide) rfl ?_
    refine R_ls (ls2 := [(0, vA G 82), (1, vI l1), (2, vI 0)]) [1, 2, 0] rfl ?_
    exact h
  · replace h := h.2 q
    refine R_iconst e_X5_countStrips_0.2.2.2.2.2.1 ?_
    refine R_istore_n (ls2 := [(3, vI 0), (0, vA G 82), (1, vI l1), (2, vI l2)]) e_X5_countStrips_0.2.2.2.2.2.2.1 (by decide) rfl ?_
    refine R_ls (ls2 := [(0, vA G 82), (1, vI l1), (2, vI l2), (3, vI 0)]) [1, 2, 3, 0] rfl ?_
    exact h
theorem S_X5_countStrips_39 {G : Kg} {σ : Kmem} {Q : Int → Kmem → Prop} {l1 l2 : Int}  (h : (rI l2) ∧ ((12 ≤ l2 → Q 0 σ) ∧ (l2 < 12 → Run G WX M_X8_lookPastCuts 3 0 0 [vA G 58, vA G 31, vI l2] σ (fun r3 s4 => E_X5_countStrips_59 G l1 l2 0 s4 Q)))) : E_X5_countStrips_39 G l1 l2 σ Q := by
  refine R_iload_n e_X5_countStrips_2.2.2.2.1 2 rfl ?_
  refine R_bipush e_X5_countStrips_2.2.2.2.2.1 (by decide) ?_
  obtain ⟨q2, h⟩ := h
  refine R_icmp_ge 129 e_X5_countStrips_2.2.2.2.2.2.1 (by decide) q2 (by decide) (fun q => ?_) (fun q => ?_)
  · replace h := h.1 q
    exact R_return e_X5_countStrips_7 rfl h
  · replace h := h.2 q
    refine R_aload_n e_X5_countStrips_2.2.2.2.2.2.2.1 0 rfl ?_
    refine R_getA 5 1 58 e_X5_countStrips_2.2.2.2.2.2.2.2.1 f_X5_68 kx_82 (fun _ _ => rfl) rx_82_1 (by decide) ?_
    refine R_aload_n e_X5_countStrips_2.2.2.2.2.2.2.2.2.1 0 rfl ?_
    refine R_getA 5 0 31 e_X5_countStrips_2.2.2.2.2.2.2.2.2.2 f_X5_64 kx_82 (fun _ _ => rfl) rx_82_0 (by decide) ?_
    refine R_iload_n e_X5_countStrips_3.1 2 rfl ?_
    refine R_callV (mc := 0) (ms := 0) (mc' := 0) (ms' := 0) (M' := M_X8_lookPastCuts) (d' := 3) (as := [vA G 31, vI l2]) (st := []) 8 2 e_X5_countStrips_3.2.1 (kCVof m_X8_lookPastCuts l_X5_176) rfl (by decide) kx_58 (by decide) (by decide) rfl rfl (by show (0 : Nat) ≤ 8; decide) ?_
    refine Run.mono h (fun r3 s4 h => ?_)
    refine R_eqs (st2 := []) rfl rfl ?_
    refine R_iconst e_X5_countStrips_3.2.2.1 ?_
    refine R_istore_n (ls2 := [(3, vI 0), (0, vA G 82), (1, vI l1), (2, vI l2)]) e_X5_countStrips_3.2.2.2.1 (by decide) rfl ?_
    refine R_ls (ls2 := [(0, vA G 82), (1, vI l1), (2, vI l2), (3, vI 0)]) [1, 2, 3, 0] rfl ?_
    exact h
theorem S_X5_countStrips_10 {G : Kg} {σ : Kmem} {Q : Int → Kmem → Prop} {l1 l2 l3 : Int}  (h : (rI l3) ∧ ((9 ≤ l3 → E_X5_countStrips_2 G l1 (l2 + 1) σ Q) ∧ (l3 < 9 → (0 ≤ l2 ∧ l2 < 6) ∧ (0 ≤ l3 ∧ l3 < 9) ∧ E_X5_countStrips_10 G l1 l2 (l3 + 1) (kup σ (90 + l2) l3 0) Q))) : E_X5_countStrips_10 G l1 l2 l3 σ Q := by
  refine R_iload_n e_X5_countStrips_0.2.2.2.2.2.2.2.1 3 rfl ?_
  refine R_bipush e_X5_countStrips_0.2.2.2.2.2.2.2.2.1 (by decide) ?_
  obtain ⟨q5, h⟩ := h
  refine R_icmp_ge 31 e_X5_countStrips_0.2.2.2.2.2.2.2.2.2 (by decide) q5 (by decide) (fun q => ?_) (fun q => ?_)
  · replace h := h.1 q
    refine R_iinc (ls2 := [(2, vI (l2 + 1)), (0, vA G 82), (1, vI l1), (3, vI l3)]) e_X5_countStrips_1.2.2.2.2.2.2.2.2.2 2 rfl (by decide) rfl ?_
    refine R_goto 2 e_X5_countStrips_2.1 (by decide) ?_
    refine R_ls (ls2 := [(0, vA G 82), (1, vI l1), (2, vI (l2 + 1))]) [1, 2, 0] rfl ?_
    exact h
  · replace h := h.2 q
    refine R_aload_n e_X5_countStrips_1.1 0 rfl ?_
    refine R_getA 5 17 89 e_X5_countStrips_1.2.1 f_X5_61 kx_82 (fun _ _ => rfl) rx_82_17 (by decide) ?_
    refine R_iload_n e_X5_countStrips_1.2.2.1 2 rfl ?_
    obtain ⟨q6, h⟩ := h
    refine R_aald2 6 (90 + l2) e_X5_countStrips_1.2.2.2.1 kxa_89 q6 (adP_at q6) (adP_n q6) ?_
    refine R_iload_n e_X5_countStrips_1.2.2.2.2.1 3 rfl ?_
    refine R_iconst e_X5_countStrips_1.2.2.2.2.2.1 ?_
    obtain ⟨q7, h⟩ := h
    refine R_iast 9 WX_ok e_X5_countStrips_1.2.2.2.2.2.2.1 (adP_ar q6) q7 ?_
    refine R_iinc (ls2 := [(3, vI (l3 + 1)), (0, vA G 82), (1, vI l1), (2, vI l2)]) e_X5_countStrips_1.2.2.2.2.2.2.2.1 3 rfl (by decide) rfl ?_
    refine R_goto 10 e_X5_countStrips_1.2.2.2.2.2.2.2.2.1 (by decide) ?_
    refine R_ls (ls2 := [(0, vA G 82), (1, vI l1), (2, vI l2), (3, vI (l3 + 1))]) [1, 2, 3, 0] rfl ?_
    exact h
theorem S_X5_countStrips_59 {G : Kg} {σ : Kmem} {Q : Int → Kmem → Prop} {l1 l2 l3 : Int}  (h : (rI l3) ∧ (rI (σ 31 5)) ∧ ((σ 31 5 ≤ l3 → E_X5_countStrips_39 G l1 (l2 + 1) σ Q) ∧ (l3 < σ 31 5 → E_X5_countStrips_73 G l1 l2 l3 0 σ Q))) : E_X5_countStrips_59 G l1 l2 l3 σ Q := by
  refine R_iload_n e_X5_countStrips_3.2.2.2.2.1 3 rfl ?_
  refine R_aload_n e_X5_countStrips_3.2.2.2.2.2.1 0 rfl ?_
  refine R_getA 5 0 31 e_X5_countStrips_3.2.2.2.2.2.2.1 f_X5_64 kx_82 (fun _ _ => rfl) rx_82_0 (by decide) ?_
  refine R_getI 0 5 5 e_X5_countStrips_3.2.2.2.2.2.2.2.1 f_X5_179 (kC_self isC_31) (fun _ _ => rfl) rfl ?_
  obtain ⟨q8, h⟩ := h
  obtain ⟨q9, h⟩ := h
  refine R_icmp_ge 123 e_X5_countStrips_3.2.2.2.2.2.2.2.2.1 (by decide) q8 q9 (fun q => ?_) (fun q => ?_)
  · replace h := h.1 q
    refine R_iinc (ls2 := [(2, vI (l2 + 1)), (0, vA G 82), (1, vI l1), (3, vI l3)]) e_X5_countStrips_6.2.2.2.2.2.2.2.2.1 2 rfl (by decide) rfl ?_
    refine R_goto 39 e_X5_countStrips_6.2.2.2.2.2.2.2.2.2 (by decide) ?_
    refine R_ls (ls2 := [(0, vA G 82), (1, vI l1), (2, vI (l2 + 1))]) [1, 2, 0] rfl ?_
    exact h
  · replace h := h.2 q
    refine R_iconst e_X5_countStrips_3.2.2.2.2.2.2.2.2.2 ?_
    refine R_istore (ls2 := [(4, vI 0), (0, vA G 82), (1, vI l1), (2, vI l2), (3, vI l3)]) e_X5_countStrips_4.1 (by decide) rfl ?_
    refine R_ls (ls2 := [(0, vA G 82), (1, vI l1), (2, vI l2), (3, vI l3), (4, vI 0)]) [1, 2, 3, 4, 0] rfl ?_
    exact h
theorem S_X5_countStrips_73 {G : Kg} {σ : Kmem} {Q : Int → Kmem → Prop} {l1 l2 l3 l4 : Int}  (h : (rI l4) ∧ (rI (σ 31 0)) ∧ ((σ 31 0 ≤ l4 → E_X5_countStrips_59 G l1 l2 (l3 + 1) σ Q) ∧ (l4 < σ 31 0 → (0 ≤ l3 ∧ l3 < 6) ∧ (0 ≤ l4 ∧ l4 < 9) ∧ Run G WX M_X8_shadersOf 0 0 0 [vA G 58, vI l4, vI l1] σ (fun r14 s15 => (0 ≤ l4 ∧ l4 < 9) ∧ E_X5_countStrips_73 G l1 l2 l3 (l4 + 1) (kup s15 (90 + l3) l4 ((σ (90 + l3) l4) + (kand (kshr r14 l3) 1))) Q)))) : E_X5_countStrips_73 G l1 l2 l3 l4 σ Q := by
  refine R_iload e_X5_countStrips_4.2.1 4 rfl ?_
  refine R_aload_n e_X5_countStrips_4.2.2.1 0 rfl ?_
  refine R_getA 5 0 31 e_X5_countStrips_4.2.2.2.1 f_X5_64 kx_82 (fun _ _ => rfl) rx_82_0 (by decide) ?_
  refine R_getI 0 0 0 e_X5_countStrips_4.2.2.2.2.1 f_X5_87 (kC_self isC_31) (fun _ _ => rfl) rfl ?_
  obtain ⟨q10, h⟩ := h
  obtain ⟨q11, h⟩ := h
  refine R_icmp_ge 117 e_X5_countStrips_4.2.2.2.2.2.1 (by decide) q10 q11 (fun q => ?_) (fun q => ?_)
  · replace h := h.1 q
    refine R_iinc (ls2 := [(3, vI (l3 + 1)), (0, vA G 82), (1, vI l1), (2, vI l2), (4, vI l4)]) e_X5_countStrips_6.2.2.2.2.2.2.1 3 rfl (by decide) rfl ?_
    refine R_goto 59 e_X5_countStrips_6.2.2.2.2.2.2.2.1 (by decide) ?_
    refine R_ls (ls2 := [(0, vA G 82), (1, vI l1), (2, vI l2), (3, vI (l3 + 1))]) [1, 2, 3, 0] rfl ?_
    exact h
  · replace h := h.2 q
    refine R_aload_n e_X5_countStrips_4.2.2.2.2.2.2.1 0 rfl ?_
    refine R_getA 5 17 89 e_X5_countStrips_4.2.2.2.2.2.2.2.1 f_X5_61 kx_82 (fun _ _ => rfl) rx_82_17 (by decide) ?_
    refine R_iload_n e_X5_countStrips_4.2.2.2.2.2.2.2.2.1 3 rfl ?_
    obtain ⟨q12, h⟩ := h
    refine R_aald2 6 (90 + l3) e_X5_countStrips_4.2.2.2.2.2.2.2.2.2 kxa_89 q12 (adP_at q12) (adP_n q12) ?_
    refine R_iload e_X5_countStrips_5.1 4 rfl ?_
    refine R_dup2 e_X5_countStrips_5.2.1 rfl rfl ?_
    obtain ⟨q13, h⟩ := h
    refine R_iald 9 e_X5_countStrips_5.2.2.1 (adP_ar q12) q13 ?_
    refine R_aload_n e_X5_countStrips_5.2.2.2.1 0 rfl ?_
    refine R_getA 5 1 58 e_X5_countStrips_5.2.2.2.2.1 f_X5_68 kx_82 (fun _ _ => rfl) rx_82_1 (by decide) ?_
    refine R_iload e_X5_countStrips_5.2.2.2.2.2.1 4 rfl ?_
    refine R_iload_n e_X5_countStrips_5.2.2.2.2.2.2.1 1 rfl ?_
    refine R_callV (mc := 0) (ms := 0) (mc' := 0) (ms' := 0) (M' := M_X8_shadersOf) (d' := 0) (as := [vI l4, vI l1]) (st := [vI (σ (90 + l3) l4), vI l4, vA G (90 + l3)]) 8 2 e_X5_countStrips_5.2.2.2.2.2.2.2.1 (kCVof m_X8_shadersOf l_X5_133) rfl (by decide) kx_58 (by decide) (by decide) rfl rfl (by show (3 : Nat) ≤ 8; decide) ?_
    refine Run.mono h (fun r14 s15 h => ?_)
    refine R_eqs (st2 := [vI r14, vI (σ (90 + l3) l4), vI l4, vA G (90 + l3)]) rfl rfl ?_
    refine R_iload_n e_X5_countStrips_5.2.2.2.2.2.2.2.2.1 3 rfl ?_
    refine R_ishr e_X5_countStrips_5.2.2.2.2.2.2.2.2.2 ?_
    refine R_iconst e_X5_countStrips_6.1 ?_
    refine R_iand e_X5_countStrips_6.2.1 ?_
    refine R_iadd e_X5_countStrips_6.2.2.1 ?_
    obtain ⟨q16, h⟩ := h
    refine R_iast 9 WX_ok e_X5_countStrips_6.2.2.2.1 (adP_ar q12) q16 ?_
    refine R_iinc (ls2 := [(4, vI (l4 + 1)), (0, vA G 82), (1, vI l1), (2, vI l2), (3, vI l3)]) e_X5_countStrips_6.2.2.2.2.1 4 rfl (by decide) rfl ?_
    refine R_goto 73 e_X5_countStrips_6.2.2.2.2.2.1 (by decide) ?_
    refine R_ls (ls2 := [(0, vA G 82), (1, vI l1), (2, vI l2), (3, vI l3), (4, vI (l4 + 1))]) [1, 2, 3, 4, 0] rfl ?_
    exact h
/-! KiteLand$Plans.unlikeStrips(I)I -/
theorem e_X5_unlikeStrips_0 : decode cX5_unlikeStrips 0 = .ok (.aload_n 0, 1) ∧ decode cX5_unlikeStrips 1 = .ok (.iload_n 1, 1) ∧ decode cX5_unlikeStrips 2 = .ok (.invokevirtual 182, 3) ∧ decode cX5_unlikeStrips 5 = .ok (.iconst 0, 1) ∧ decode cX5_unlikeStrips 6 = .ok (.istore_n 2, 1) ∧ decode cX5_unlikeStrips 7 = .ok (.iconst 0, 1) ∧ decode cX5_unlikeStrips 8 = .ok (.istore_n 3, 1) ∧ decode cX5_unlikeStrips 9 = .ok (.iload_n 3, 1) ∧ decode cX5_unlikeStrips 10 = .ok (.aload_n 0, 1) ∧ decode cX5_unlikeStrips 11 = .ok (.getfield 64, 3) := by decide +kernel
theorem e_X5_unlikeStrips_1 : decode cX5_unlikeStrips 14 = .ok (.getfield 179, 3) ∧ decode cX5_unlikeStrips 17 = .ok (.if_icmp .ge 48, 3) ∧ decode cX5_unlikeStrips 20 = .ok (.iconst 1, 1) ∧ decode cX5_unlikeStrips 21 = .ok (.istore 4, 2) ∧ decode cX5_unlikeStrips 23 = .ok (.iconst 0, 1) ∧ decode cX5_unlikeStrips 24 = .ok (.istore 5, 2) ∧ decode cX5_unlikeStrips 26 = .ok (.iload 5, 2) ∧ decode cX5_unlikeStrips 28 = .ok (.iload_n 3, 1) ∧ decode cX5_unlikeStrips 29 = .ok (.if_icmp .ge 22, 3) ∧ decode cX5_unlikeStrips 32 = .ok (.aload_n 0, 1) := by decide +kernel
theorem e_X5_unlikeStrips_2 : decode cX5_unlikeStrips 33 = .ok (.iload_n 3, 1) ∧ decode cX5_unlikeStrips 34 = .ok (.iload 5, 2) ∧ decode cX5_unlikeStrips 36 = .ok (.invokevirtual 185, 3) ∧ decode cX5_unlikeStrips 39 = .ok (.ifCond .eq 6, 3) ∧ decode cX5_unlikeStrips 42 = .ok (.iconst 0, 1) ∧ decode cX5_unlikeStrips 43 = .ok (.istore 4, 2) ∧ decode cX5_unlikeStrips 45 = .ok (.iinc 5 1, 3) ∧ decode cX5_unlikeStrips 48 = .ok (.goto (-22), 3) ∧ decode cX5_unlikeStrips 51 = .ok (.iload 4, 2) ∧ decode cX5_unlikeStrips 53 = .ok (.ifCond .eq 6, 3) := by decide +kernel
theorem e_X5_unlikeStrips_3 : decode cX5_unlikeStrips 56 = .ok (.iinc 2 1, 3) ∧ decode cX5_unlikeStrips 59 = .ok (.iinc 3 1, 3) ∧ decode cX5_unlikeStrips 62 = .ok (.goto (-53), 3) ∧ decode cX5_unlikeStrips 65 = .ok (.iload_n 2, 1) ∧ decode cX5_unlikeStrips 66 = .ok (.ireturn, 1) := by decide +kernel
abbrev E_X5_unlikeStrips_9 (G : Kg) (l2 l3 : Int) (σ : Kmem) (Q : Int → Kmem → Prop) : Prop := Ex G WX M_X5_unlikeStrips 5 0 0 9 [(0, vA G 82), (2, vI l2), (3, vI l3)] [] σ Q
abbrev E_X5_unlikeStrips_26 (G : Kg) (l2 l3 l4 l5 : Int) (σ : Kmem) (Q : Int → Kmem → Prop) : Prop := Ex G WX M_X5_unlikeStrips 5 0 0 26 [(0, vA G 82), (2, vI l2), (3, vI l3), (4, vI l4), (5, vI l5)] [] σ Q
theorem S_X5_unlikeStrips {G : Kg} {σ : Kmem} {Q : Int → Kmem → Prop} {l1 : Int}  (h : Run G WX M_X5_countStrips 4 0 0 [vA G 82, vI l1] σ (fun r1 s2 => E_X5_unlikeStrips_9 G 0 0 s2 Q)) : Run G WX M_X5_unlikeStrips 5 0 0 [vA G 82, vI l1] σ Q := by
  refine Run.of (by decide +kernel) (by show (2 : Nat) ≤ 6; decide) ?_
  show Ex G WX M_X5_unlikeStrips 5 0 0 0 [(0, vA G 82), (1, vI l1)] [] σ Q
  refine R_aload_n e_X5_unlikeStrips_0.1 0 rfl ?_
  refine R_iload_n e_X5_unlikeStrips_0.2.1 1 rfl ?_
  refine R_callV (mc := 0) (ms := 0) (mc' := 0) (ms' := 0) (M' := M_X5_countStrips) (d' := 4) (as := [vI l1]) (st := []) 5 1 e_X5_unlikeStrips_0.2.2.1 (kCVof m_X5_countStrips l_X5_182) rfl (by decide) kx_82 (by decide) (by decide) rfl rfl (by show (0 : Nat) ≤ 8; decide) ?_
  refine Run.mono h (fun r1 s2 h => ?_)
  refine R_eqs (st2 := []) rfl rfl ?_
  refine R_iconst e_X5_unlikeStrips_0.2.2.2.1 ?_
  refine R_istore_n (ls2 := [(2, vI 0), (0, vA G 82), (1, vI l1)]) e_X5_unlikeStrips_0.2.2.2.2.1 (by decide) rfl ?_
  refine R_iconst e_X5_unlikeStrips_0.2.2.2.2.2.1 ?_
  refine R_istore_n (ls2 := [(3, vI 0), (2, vI 0), (0, vA G 82), (1, vI l1)]) e_X5_unlikeStrips_0.2.2.2.2.2.2.1 (by decide) rfl ?_
  refine R_ls (ls2 := [(0, vA G 82), (2, vI 0), (3, vI 0)]) [2, 1, 0] rfl ?_
  exact h
theorem S_X5_unlikeStrips_9 {G : Kg} {σ : Kmem} {Q : Int → Kmem → Prop} {l1 l2 l3 : Int}  (h : (rI l3) ∧ (rI (σ 31 5)) ∧ ((σ 31 5 ≤ l3 → Q l2 σ) ∧ (l3 < σ 31 5 → E_X5_unlikeStrips_26 G l2 l3 1 0 σ Q))) : E_X5_unlikeStrips_9 G l2 l3 σ Q := by
  refine R_iload_n e_X5_unlikeStrips_0.2.2.2.2.2.2.2.1 2 rfl ?_
  refine R_aload_n e_X5_unlikeStrips_0.2.2.2.2.2.2.2.2.1 0 rfl ?_
  refine R_getA 5 0 31 e_X5_unlikeStrips_0.2.2.2.2.2.2.2.2.2 f_X5_64 kx_82 (fun _ _ => rfl) rx_82_0 (by decide) ?_
  refine R_getI 0 5 5 e_X5_unlikeStrips_1.1 f_X5_179 (kC_self isC_31) (fun _ _ => rfl) rfl ?_
  obtain ⟨q3, h⟩ := h
  obtain ⟨q4, h⟩ := h
  refine R_icmp_ge 65 e_X5_unlikeStrips_1.2.1 (by decide) q3 q4 (fun q => ?_) (fun q => ?_)
  · replace h := h.1 q
    refine R_iload_n e_X5_unlikeStrips_3.2.2.2.1 1 rfl ?_
    exact R_ireturn e_X5_unlikeStrips_3.2.2.2.2 rfl h
  · replace h := h.2 q
    refine R_iconst e_X5_unlikeStrips_1.2.2.1 ?_
    refine R_istore (ls2 := [(4, vI 1), (0, vA G 82), (2, vI l2), (3, vI l3)]) e_X5_unlikeStrips_1.2.2.2.1 (by decide) rfl ?_
    refine R_iconst e_X5_unlikeStrips_1.2.2.2.2.1 ?_
    refine R_istore (ls2 := [(5, vI 0), (4, vI 1), (0, vA G 82), (2, vI l2), (3, vI l3)]) e_X5_unlikeStrips_1.2.2.2.2.2.1 (by decide) rfl ?_
    refine R_ls (ls2 := [(0, vA G 82), (2, vI l2), (3, vI l3), (4, vI 1), (5, vI 0)]) [2, 3, 4, 1, 0] rfl ?_
    exact h
theorem S_X5_unlikeStrips_26 {G : Kg} {σ : Kmem} {Q : Int → Kmem → Prop} {l1 l2 l3 l4 l5 : Int}  (h : (rI l5) ∧ (rI l3) ∧ ((l3 ≤ l5 → (rI l4) ∧ ((l4 = 0 → E_X5_unlikeStrips_9 G l2 (l3 + 1) σ Q) ∧ (l4 ≠ 0 → E_X5_unlikeStrips_9 G (l2 + 1) (l3 + 1) σ Q))) ∧ (l5 < l3 → Run G WX M_X5_areAlike 0 0 0 [vA G 82, vI l3, vI l5] σ (fun r8 s9 => (rI r8) ∧ ((r8 = 0 → E_X5_unlikeStrips_26 G l2 l3 l4 (l5 + 1) s9 Q) ∧ (r8 ≠ 0 → E_X5_unlikeStrips_26 G l2 l3 0 (l5 + 1) s9 Q)))))) : E_X5_unlikeStrips_26 G l2 l3 l4 l5 σ Q := by
  refine R_iload e_X5_unlikeStrips_1.2.2.2.2.2.2.1 4 rfl ?_
  refine R_iload_n e_X5_unlikeStrips_1.2.2.2.2.2.2.2.1 2 rfl ?_
  obtain ⟨q5, h⟩ := h
  obtain ⟨q6, h⟩ := h
  refine R_icmp_ge 51 e_X5_unlikeStrips_1.2.2.2.2.2.2.2.2.1 (by decide) q5 q6 (fun q => ?_) (fun q => ?_)
  · replace h := h.1 q
    refine R_iload e_X5_unlikeStrips_2.2.2.2.2.2.2.2.2.1 3 rfl ?_
    obtain ⟨q7, h⟩ := h
    refine R_if_eq 59 e_X5_unlikeStrips_2.2.2.2.2.2.2.2.2.2 (by decide) q7  (fun q => ?_) (fun q => ?_)
    · replace h := h.1 q
      refine R_iinc (ls2 := [(3, vI (l3 + 1)), (0, vA G 82), (2, vI l2), (4, vI l4), (5, vI l5)]) e_X5_unlikeStrips_3.2.1 2 rfl (by decide) rfl ?_
      refine R_goto 9 e_X5_unlikeStrips_3.2.2.1 (by decide) ?_
      refine R_ls (ls2 := [(0, vA G 82), (2, vI l2), (3, vI (l3 + 1))]) [1, 2, 0] rfl ?_
      exact h
    · replace h := h.2 q
      refine R_iinc (ls2 := [(2, vI (l2 + 1)), (0, vA G 82), (3, vI l3), (4, vI l4), (5, vI l5)]) e_X5_unlikeStrips_3.1 1 rfl (by decide) rfl ?_
      refine R_iinc (ls2 := [(3, vI (l3 + 1)), (2, vI (l2 + 1)), (0, vA G 82), (4, vI l4), (5, vI l5)]) e_X5_unlikeStrips_3.2.1 2 rfl (by decide) rfl ?_
      refine R_goto 9 e_X5_unlikeStrips_3.2.2.1 (by decide) ?_
      refine R_ls (ls2 := [(0, vA G 82), (2, vI (l2 + 1)), (3, vI (l3 + 1))]) [2, 1, 0] rfl ?_
      exact h
  · replace h := h.2 q
    refine R_aload_n e_X5_unlikeStrips_1.2.2.2.2.2.2.2.2.2 0 rfl ?_
    refine R_iload_n e_X5_unlikeStrips_2.1 2 rfl ?_
    refine R_iload e_X5_unlikeStrips_2.2.1 4 rfl ?_
    refine R_callV (mc := 0) (ms := 0) (mc' := 0) (ms' := 0) (M' := M_X5_areAlike) (d' := 0) (as := [vI l3, vI l5]) (st := []) 5 2 e_X5_unlikeStrips_2.2.2.1 (kCVof m_X5_areAlike l_X5_185) rfl (by decide) kx_82 (by decide) (by decide) rfl rfl (by show (0 : Nat) ≤ 8; decide) ?_
    refine Run.mono h (fun r8 s9 h => ?_)
    refine R_eqs (st2 := [vI r8]) rfl rfl ?_
    obtain ⟨q10, h⟩ := h
    refine R_if_eq 45 e_X5_unlikeStrips_2.2.2.2.1 (by decide) q10  (fun q => ?_) (fun q => ?_)
    · replace h := h.1 q
      refine R_iinc (ls2 := [(5, vI (l5 + 1)), (0, vA G 82), (2, vI l2), (3, vI l3), (4, vI l4)]) e_X5_unlikeStrips_2.2.2.2.2.2.2.1 4 rfl (by decide) rfl ?_
      refine R_goto 26 e_X5_unlikeStrips_2.2.2.2.2.2.2.2.1 (by decide) ?_
      refine R_ls (ls2 := [(0, vA G 82), (2, vI l2), (3, vI l3), (4, vI l4), (5, vI (l5 + 1))]) [1, 2, 3, 4, 0] rfl ?_
      exact h
    · replace h := h.2 q
      refine R_iconst e_X5_unlikeStrips_2.2.2.2.2.1 ?_
      refine R_istore (ls2 := [(4, vI 0), (0, vA G 82), (2, vI l2), (3, vI l3), (5, vI l5)]) e_X5_unlikeStrips_2.2.2.2.2.2.1 (by decide) rfl ?_
      refine R_iinc (ls2 := [(5, vI (l5 + 1)), (4, vI 0), (0, vA G 82), (2, vI l2), (3, vI l3)]) e_X5_unlikeStrips_2.2.2.2.2.2.2.1 4 rfl (by decide) rfl ?_
      refine R_goto 26 e_X5_unlikeStrips_2.2.2.2.2.2.2.2.1 (by decide) ?_
      refine R_ls (ls2 := [(0, vA G 82), (2, vI l2), (3, vI l3), (4, vI 0), (5, vI (l5 + 1))]) [2, 3, 4, 1, 0] rfl ?_
      exact h
/-! KiteLand$Plans.areAlike(II)Z -/
theorem e_X5_areAlike_0 : decode cX5_areAlike 0 = .ok (.iconst 0, 1) ∧ decode cX5_areAlike 1 = .ok (.istore_n 3, 1) ∧ decode cX5_areAlike 2 = .ok (.iload_n 3, 1) ∧ decode cX5_areAlike 3 = .ok (.aload_n 0, 1) ∧ decode cX5_areAlike 4 = .ok (.getfield 64, 3) ∧ decode cX5_areAlike 7 = .ok (.getfield 87, 3) ∧ decode cX5_areAlike 10 = .ok (.if_icmp .ge 30, 3) ∧ decode cX5_areAlike 13 = .ok (.aload_n 0, 1) ∧ decode cX5_areAlike 14 = .ok (.getfield 61, 3) ∧ decode cX5_areAlike 17 = .ok (.iload_n 1, 1) := by decide +kernel
theorem e_X5_areAlike_1 : decode cX5_areAlike 18 = .ok (.aaload, 1) ∧ decode cX5_areAlike 19 = .ok (.iload_n 3, 1) ∧ decode cX5_areAlike 20 = .ok (.iaload, 1) ∧ decode cX5_areAlike 21 = .ok (.aload_n 0, 1) ∧ decode cX5_areAlike 22 = .ok (.getfield 61, 3) ∧ decode cX5_areAlike 25 = .ok (.iload_n 2, 1) ∧ decode cX5_areAlike 26 = .ok (.aaload, 1) ∧ decode cX5_areAlike 27 = .ok (.iload_n 3, 1) ∧ decode cX5_areAlike 28 = .ok (.iaload, 1) ∧ decode cX5_areAlike 29 = .ok (.if_icmp .eq 5, 3) := by decide +kernel
theorem e_X5_areAlike_2 : decode cX5_areAlike 32 = .ok (.iconst 0, 1) ∧ decode cX5_areAlike 33 = .ok (.ireturn, 1) ∧ decode cX5_areAlike 34 = .ok (.iinc 3 1, 3) ∧ decode cX5_areAlike 37 = .ok (.goto (-35), 3) ∧ decode cX5_areAlike 40 = .ok (.iconst 1, 1) ∧ decode cX5_areAlike 41 = .ok (.ireturn, 1) := by decide +kernel
abbrev E_X5_areAlike_2 (G : Kg) (l1 l2 l3 : Int) (σ : Kmem) (Q : Int → Kmem → Prop) : Prop := Ex G WX M_X5_areAlike 0 0 0 2 [(0, vA G 82), (1, vI l1), (2, vI l2), (3, vI l3)] [] σ Q
theorem S_X5_areAlike {G : Kg} {σ : Kmem} {Q : Int → Kmem → Prop} {l1 l2 : Int}  (h : E_X5_areAlike_2 G l1 l2 0 σ Q) : Run G WX M_X5_areAlike 0 0 0 [vA G 82, vI l1, vI l2] σ Q := by
  refine Run.of (by decide +kernel) (by show (3 : Nat) ≤ 4; decide) ?_
  show Ex G WX M_X5_areAlike 0 0 0 0 [(0, vA G 82), (1, vI l1), (2, vI l2)] [] σ Q
  refine R_iconst e_X5_areAlike_0.1 ?_
  refine R_istore_n (ls2 := [(3, vI 0), (0, vA G 82), (1, vI l1), (2, vI l2)]) e_X5_areAlike_0.2.1 (by decide) rfl ?_
  refine R_ls (ls2 := [(0, vA G 82), (1, vI l1), (2, vI l2), (3, vI 0)]) [1, 2, 3, 0] rfl ?_
  exact h
theorem S_X5_areAlike_2 {G : Kg} {σ : Kmem} {Q : Int → Kmem → Prop} {l1 l2 l3 : Int}  (h : (rI l3) ∧ (rI (σ 31 0)) ∧ ((σ 31 0 ≤ l3 → Q 1 σ) ∧ (l3 < σ 31 0 → (0 ≤ l1 ∧ l1 < 6) ∧ (0 ≤ l3 ∧ l3 < 9) ∧ (0 ≤ l2 ∧ l2 < 6) ∧ (0 ≤ l3 ∧ l3 < 9) ∧ (rI (σ (90 + l1) l3)) ∧ (rI (σ (90 + l2) l3)) ∧ ((σ (90 + l1) l3 = σ (90 + l2) l3 → E_X5_areAlike_2 G l1 l2 (l3 + 1) σ Q) ∧ (σ (90 + l1) l3 ≠ σ (90 + l2) l3 → Q 0 σ))))) : E_X5_areAlike_2 G l1 l2 l3 σ Q := by
  refine R_iload_n e_X5_areAlike_0.2.2.1 3 rfl ?_
  refine R_aload_n e_X5_areAlike_0.2.2.2.1 0 rfl ?_
  refine R_getA 5 0 31 e_X5_areAlike_0.2.2.2.2.1 f_X5_64 kx_82 (fun _ _ => rfl) rx_82_0 (by decide) ?_
  refine R_getI 0 0 0 e_X5_areAlike_0.2.2.2.2.2.1 f_X5_87 (kC_self isC_31) (fun _ _ => rfl) rfl ?_
  obtain ⟨q1, h⟩ := h
  obtain ⟨q2, h⟩ := h
  refine R_icmp_ge 40 e_X5_areAlike_0.2.2.2.2.2.2.1 (by decide) q1 q2 (fun q => ?_) (fun q => ?_)
  · replace h := h.1 q
    refine R_iconst e_X5_areAlike_2.2.2.2.2.1 ?_
    exact R_zreturn e_X5_areAlike_2.2.2.2.2.2 rfl (Or.inr rfl) h
  · replace h := h.2 q
    refine R_aload_n e_X5_areAlike_0.2.2.2.2.2.2.2.1 0 rfl ?_
    refine R_getA 5 17 89 e_X5_areAlike_0.2.2.2.2.2.2.2.2.1 f_X5_61 kx_82 (fun _ _ => rfl) rx_82_17 (by decide) ?_
    refine R_iload_n e_X5_areAlike_0.2.2.2.2.2.2.2.2.2 1 rfl ?_
    obtain ⟨q3, h⟩ := h
    refine R_aald2 6 (90 + l1) e_X5_areAlike_1.1 kxa_89 q3 (adP_at q3) (adP_n q3) ?_
    refine R_iload_n e_X5_areAlike_1.2.1 3 rfl ?_
    obtain ⟨q4, h⟩ := h
    refine R_iald 9 e_X5_areAlike_1.2.2.1 (adP_ar q3) q4 ?_
    refine R_aload_n e_X5_areAlike_1.2.2.2.1 0 rfl ?_
    refine R_getA 5 17 89 e_X5_areAlike_1.2.2.2.2.1 f_X5_61 kx_82 (fun _ _ => rfl) rx_82_17 (by decide) ?_
    refine R_iload_n e_X5_areAlike_1.2.2.2.2.2.1 2 rfl ?_
    obtain ⟨q5, h⟩ := h
    refine R_aald2 6 (90 + l2) e_X5_areAlike_1.2.2.2.2.2.2.1 kxa_89 q5 (adP_at q5) (adP_n q5) ?_
    refine R_iload_n e_X5_areAlike_1.2.2.2.2.2.2.2.1 3 rfl ?_
    obtain ⟨q6, h⟩ := h
    refine R_iald 9 e_X5_areAlike_1.2.2.2.2.2.2.2.2.1 (adP_ar q5) q6 ?_
    obtain ⟨q7, h⟩ := h
    obtain ⟨q8, h⟩ := h
    refine R_icmp_eq 34 e_X5_areAlike_1.2.2.2.2.2.2.2.2.2 (by decide) q7 q8 (fun q => ?_) (fun q => ?_)
    · replace h := h.1 q
      refine R_iinc (ls2 := [(3, vI (l3 + 1)), (0, vA G 82), (1, vI l1), (2, vI l2)]) e_X5_areAlike_2.2.2.1 3 rfl (by decide) rfl ?_
      refine R_goto 2 e_X5_areAlike_2.2.2.2.1 (by decide) ?_
      refine R_ls (ls2 := [(0, vA G 82), (1, vI l1), (2, vI l2), (3, vI (l3 + 1))]) [1, 2, 3, 0] rfl ?_
      exact h
    · replace h := h.2 q
      refine R_iconst e_X5_areAlike_2.1 ?_
      exact R_zreturn e_X5_areAlike_2.2.1 rfl (Or.inl rfl) h
/-! KiteLand$Plans.isStrip(I[J)Z -/
theorem e_X5_isStrip_0 : decode cX5_isStrip 0 = .ok (.iconst 0, 1) ∧ decode cX5_isStrip 1 = .ok (.istore_n 3, 1) ∧ decode cX5_isStrip 2 = .ok (.iload_n 3, 1) ∧ decode cX5_isStrip 3 = .ok (.aload_n 0, 1) ∧ decode cX5_isStrip 4 = .ok (.getfield 64, 3) ∧ decode cX5_isStrip 7 = .ok (.getfield 87, 3) ∧ decode cX5_isStrip 10 = .ok (.if_icmp .ge 27, 3) ∧ decode cX5_isStrip 13 = .ok (.aload_n 0, 1) ∧ decode cX5_isStrip 14 = .ok (.getfield 61, 3) ∧ decode cX5_isStrip 17 = .ok (.iload_n 1, 1) := by decide +kernel
theorem e_X5_isStrip_1 : decode cX5_isStrip 18 = .ok (.aaload, 1) ∧ decode cX5_isStrip 19 = .ok (.iload_n 3, 1) ∧ decode cX5_isStrip 20 = .ok (.iaload, 1) ∧ decode cX5_isStrip 21 = .ok (.i2l, 1) ∧ decode cX5_isStrip 22 = .ok (.aload_n 2, 1) ∧ decode cX5_isStrip 23 = .ok (.iload_n 3, 1) ∧ decode cX5_isStrip 24 = .ok (.laload, 1) ∧ decode cX5_isStrip 25 = .ok (.lcmp, 1) ∧ decode cX5_isStrip 26 = .ok (.ifCond .eq 5, 3) ∧ decode cX5_isStrip 29 = .ok (.iconst 0, 1) := by decide +kernel
theorem e_X5_isStrip_2 : decode cX5_isStrip 30 = .ok (.ireturn, 1) ∧ decode cX5_isStrip 31 = .ok (.iinc 3 1, 3) ∧ decode cX5_isStrip 34 = .ok (.goto (-32), 3) ∧ decode cX5_isStrip 37 = .ok (.iconst 1, 1) ∧ decode cX5_isStrip 38 = .ok (.ireturn, 1) := by decide +kernel
abbrev E_X5_isStrip_2 (G : Kg) (l1 n l3 : Int) (σ : Kmem) (Q : Int → Kmem → Prop) : Prop := Ex G WX M_X5_isStrip 0 0 0 2 [(0, vA G 82), (1, vI l1), (2, vA G n), (3, vI l3)] [] σ Q
theorem S_X5_isStrip {G : Kg} {σ : Kmem} {Q : Int → Kmem → Prop} {l1 n : Int} (hn : kArX n 21 60) (h : E_X5_isStrip_2 G l1 n 0 σ Q) : Run G WX M_X5_isStrip 0 0 0 [vA G 82, vI l1, vA G n] σ Q := by
  refine Run.of (by decide +kernel) (by show (3 : Nat) ≤ 4; decide) ?_
  show Ex G WX M_X5_isStrip 0 0 0 0 [(0, vA G 82), (1, vI l1), (2, vA G n)] [] σ Q
  refine R_iconst e_X5_isStrip_0.1 ?_
  refine R_istore_n (ls2 := [(3, vI 0), (0, vA G 82), (1, vI l1), (2, vA G n)]) e_X5_isStrip_0.2.1 (by decide) rfl ?_
  refine R_ls (ls2 := [(0, vA G 82), (1, vI l1), (2, vA G n), (3, vI 0)]) [1, 2, 3, 0] rfl ?_
  exact h
theorem S_X5_isStrip_2 {G : Kg} {σ : Kmem} {Q : Int → Kmem → Prop} {l1 n l3 : Int} (hn : kArX n 21 60) (h : (rI l3) ∧ (rI (σ 31 0)) ∧ ((σ 31 0 ≤ l3 → Q 1 σ) ∧ (l3 < σ 31 0 → (0 ≤ l1 ∧ l1 < 6) ∧ (0 ≤ l3 ∧ l3 < 9) ∧ (rI (σ (90 + l1) l3)) ∧ (0 ≤ l3 ∧ l3 < 60) ∧ (rL (σ (90 + l1) l3)) ∧ (rL (σ n l3)) ∧ ((σ (90 + l1) l3 = σ n l3 → E_X5_isStrip_2 G l1 n (l3 + 1) σ Q) ∧ (σ (90 + l1) l3 ≠ σ n l3 → Q 0 σ))))) : E_X5_isStrip_2 G l1 n l3 σ Q := by
  refine R_iload_n e_X5_isStrip_0.2.2.1 3 rfl ?_
  refine R_aload_n e_X5_isStrip_0.2.2.2.1 0 rfl ?_
  refine R_getA 5 0 31 e_X5_isStrip_0.2.2.2.2.1 f_X5_64 kx_82 (fun _ _ => rfl) rx_82_0 (by decide) ?_
  refine R_getI 0 0 0 e_X5_isStrip_0.2.2.2.2.2.1 f_X5_87 (kC_self isC_31) (fun _ _ => rfl) rfl ?_
  obtain ⟨q1, h⟩ := h
  obtain ⟨q2, h⟩ := h
  refine R_icmp_ge 37 e_X5_isStrip_0.2.2.2.2.2.2.1 (by decide) q1 q2 (fun q => ?_) (fun q => ?_)
  · replace h := h.1 q
    refine R_iconst e_X5_isStrip_2.2.2.2.1 ?_
    exact R_zreturn e_X5_isStrip_2.2.2.2.2 rfl (Or.inr rfl) h
  · replace h := h.2 q
    refine R_aload_n e_X5_isStrip_0.2.2.2.2.2.2.2.1 0 rfl ?_
    refine R_getA 5 17 89 e_X5_isStrip_0.2.2.2.2.2.2.2.2.1 f_X5_61 kx_82 (fun _ _ => rfl) rx_82_17 (by decide) ?_
    refine R_iload_n e_X5_isStrip_0.2.2.2.2.2.2.2.2.2 1 rfl ?_
    obtain ⟨q3, h⟩ := h
    refine R_aald2 6 (90 + l1) e_X5_isStrip_1.1 kxa_89 q3 (adP_at q3) (adP_n q3) ?_
    refine R_iload_n e_X5_isStrip_1.2.1 3 rfl ?_
    obtain ⟨q4, h⟩ := h
    refine R_iald 9 e_X5_isStrip_1.2.2.1 (adP_ar q3) q4 ?_
    obtain ⟨q5, h⟩ := h
    refine R_i2l e_X5_isStrip_1.2.2.2.1 q5 ?_
    refine R_aload_n e_X5_isStrip_1.2.2.2.2.1 2 rfl ?_
    refine R_iload_n e_X5_isStrip_1.2.2.2.2.2.1 3 rfl ?_
    obtain ⟨q6, h⟩ := h
    refine R_lald 60 e_X5_isStrip_1.2.2.2.2.2.2.1 (kLXa hn) q6 ?_
    obtain ⟨q7, h⟩ := h
    obtain ⟨q8, h⟩ := h
    refine R_lcmp e_X5_isStrip_1.2.2.2.2.2.2.2.1 q7 q8 ?_
    refine R_if_eq 31 e_X5_isStrip_1.2.2.2.2.2.2.2.2.1 (by decide) (kcmp_r _ _) (fun q => ?_) (fun q => ?_)
    · replace h := h.1 (kcmp_eq_t.mp q)
      refine R_iinc (ls2 := [(3, vI (l3 + 1)), (0, vA G 82), (1, vI l1), (2, vA G n)]) e_X5_isStrip_2.2.1 3 rfl (by decide) rfl ?_
      refine R_goto 2 e_X5_isStrip_2.2.2.1 (by decide) ?_
      refine R_ls (ls2 := [(0, vA G 82), (1, vI l1), (2, vA G n), (3, vI (l3 + 1))]) [1, 2, 3, 0] rfl ?_
      exact h
    · replace h := h.2 (kcmp_eq_f.mp q)
      refine R_iconst e_X5_isStrip_1.2.2.2.2.2.2.2.2.2 ?_
      exact R_zreturn e_X5_isStrip_2.1 rfl (Or.inl rfl) h
/-! KiteLand$Plans.seekDuel(III)V -/
theorem e_X5_seekDuel_0 : decode cX5_seekDuel 0 = .ok (.aload_n 0, 1) ∧ decode cX5_seekDuel 1 = .ok (.aload_n 0, 1) ∧ decode cX5_seekDuel 2 = .ok (.iload_n 1, 1) ∧ decode cX5_seekDuel 3 = .ok (.iload_n 2, 1) ∧ decode cX5_seekDuel 4 = .ok (.iload_n 3, 1) ∧ decode cX5_seekDuel 5 = .ok (.invokevirtual 188, 3) ∧ decode cX5_seekDuel 8 = .ok (.putfield 43, 3) ∧ decode cX5_seekDuel 11 = .ok (.return_, 1) := by decide +kernel
theorem S_X5_seekDuel {G : Kg} {σ : Kmem} {Q : Int → Kmem → Prop} {l1 l2 l3 : Int}  (h : Run G WX M_X5_playOut 20 0 0 [vA G 82, vI l1, vI l2, vI l3] σ (fun r1 s2 => Q 0 (kup s2 82 12 r1))) : Run G WX M_X5_seekDuel 21 0 0 [vA G 82, vI l1, vI l2, vI l3] σ Q := by
  refine Run.of (by decide +kernel) (by show (4 : Nat) ≤ 4; decide) ?_
  show Ex G WX M_X5_seekDuel 21 0 0 0 [(0, vA G 82), (1, vI l1), (2, vI l2), (3, vI l3)] [] σ Q
  refine R_aload_n e_X5_seekDuel_0.1 0 rfl ?_
  refine R_aload_n e_X5_seekDuel_0.2.1 0 rfl ?_
  refine R_iload_n e_X5_seekDuel_0.2.2.1 1 rfl ?_
  refine R_iload_n e_X5_seekDuel_0.2.2.2.1 2 rfl ?_
  refine R_iload_n e_X5_seekDuel_0.2.2.2.2.1 3 rfl ?_
  refine R_callV (mc := 0) (ms := 0) (mc' := 0) (ms' := 0) (M' := M_X5_playOut) (d' := 20) (as := [vI l1, vI l2, vI l3]) (st := [vA G 82]) 5 3 e_X5_seekDuel_0.2.2.2.2.2.1 (kCVof m_X5_playOut l_X5_188) rfl (by decide) kx_82 (by decide) (by decide) rfl rfl (by show (1 : Nat) ≤ 8; decide) ?_
  refine Run.mono h (fun r1 s2 h => ?_)
  refine R_eqs (st2 := [vI r1, vA G 82]) rfl rfl ?_
  refine R_putI 5 12 12 WX_ok e_X5_seekDuel_0.2.2.2.2.2.2.1 f_X5_43 kx_82 rfl rfl rfl ?_
  exact R_return e_X5_seekDuel_0.2.2.2.2.2.2.2 rfl h
/-! KiteLand$Plans.playOut(III)I -/
theorem e_X5_playOut_0 : decode cX5_playOut 0 = .ok (.iload_n 3, 1) ∧ decode cX5_playOut 1 = .ok (.ifCond .le 8, 3) ∧ decode cX5_playOut 4 = .ok (.iload_n 3, 1) ∧ decode cX5_playOut 5 = .ok (.iconst 4, 1) ∧ decode cX5_playOut 6 = .ok (.if_icmp .le 39, 3) ∧ decode cX5_playOut 9 = .ok (.aload_n 0, 1) ∧ decode cX5_playOut 10 = .ok (.getfield 68, 3) ∧ decode cX5_playOut 13 = .ok (.aload_n 0, 1) ∧ decode cX5_playOut 14 = .ok (.getfield 64, 3) ∧ decode cX5_playOut 17 = .ok (.aload_n 0, 1) := by decide +kernel
theorem e_X5_playOut_1 : decode cX5_playOut 18 = .ok (.getfield 64, 3) ∧ decode cX5_playOut 21 = .ok (.invokevirtual 145, 3) ∧ decode cX5_playOut 24 = .ok (.invokevirtual 148, 3) ∧ decode cX5_playOut 27 = .ok (.aload_n 0, 1) ∧ decode cX5_playOut 28 = .ok (.getfield 68, 3) ∧ decode cX5_playOut 31 = .ok (.iload_n 1, 1) ∧ decode cX5_playOut 32 = .ok (.invokevirtual 192, 3) ∧ decode cX5_playOut 35 = .ok (.aload_n 0, 1) ∧ decode cX5_playOut 36 = .ok (.getfield 68, 3) ∧ decode cX5_playOut 39 = .ok (.iload_n 2, 1) := by decide +kernel
theorem e_X5_playOut_2 : decode cX5_playOut 40 = .ok (.invokevirtual 192, 3) ∧ decode cX5_playOut 43 = .ok (.isub, 1) ∧ decode cX5_playOut 44 = .ok (.ireturn, 1) ∧ decode cX5_playOut 45 = .ok (.aload_n 0, 1) ∧ decode cX5_playOut 46 = .ok (.getfield 64, 3) ∧ decode cX5_playOut 49 = .ok (.getfield 106, 3) ∧ decode cX5_playOut 52 = .ok (.iload_n 1, 1) ∧ decode cX5_playOut 53 = .ok (.aaload, 1) ∧ decode cX5_playOut 54 = .ok (.astore 4, 2) ∧ decode cX5_playOut 56 = .ok (.aload 4, 2) := by decide +kernel
theorem e_X5_playOut_3 : decode cX5_playOut 58 = .ok (.getfield 110, 3) ∧ decode cX5_playOut 61 = .ok (.istore 5, 2) ∧ decode cX5_playOut 63 = .ok (.aload 4, 2) ∧ decode cX5_playOut 65 = .ok (.getfield 115, 3) ∧ decode cX5_playOut 68 = .ok (.istore 6, 2) ∧ decode cX5_playOut 70 = .ok (.bipush (-64), 2) ∧ decode cX5_playOut 72 = .ok (.istore 7, 2) ∧ decode cX5_playOut 74 = .ok (.iconst 0, 1) ∧ decode cX5_playOut 75 = .ok (.istore 8, 2) ∧ decode cX5_playOut 77 = .ok (.iload 8, 2) := by decide +kernel
theorem e_X5_playOut_4 : decode cX5_playOut 79 = .ok (.iconst 5, 1) ∧ decode cX5_playOut 80 = .ok (.if_icmp .ge 77, 3) ∧ decode cX5_playOut 83 = .ok (.aload_n 0, 1) ∧ decode cX5_playOut 84 = .ok (.getfield 64, 3) ∧ decode cX5_playOut 87 = .ok (.iload_n 1, 1) ∧ decode cX5_playOut 88 = .ok (.iload 8, 2) ∧ decode cX5_playOut 90 = .ok (.invokevirtual 122, 3) ∧ decode cX5_playOut 93 = .ok (.ifCond .eq 58, 3) ∧ decode cX5_playOut 96 = .ok (.aload_n 0, 1) ∧ decode cX5_playOut 97 = .ok (.getfield 64, 3) := by decide +kernel
theorem e_X5_playOut_5 : decode cX5_playOut 100 = .ok (.iload_n 1, 1) ∧ decode cX5_playOut 101 = .ok (.iload 8, 2) ∧ decode cX5_playOut 103 = .ok (.invokevirtual 126, 3) ∧ decode cX5_playOut 106 = .ok (.aload_n 0, 1) ∧ decode cX5_playOut 107 = .ok (.iload_n 2, 1) ∧ decode cX5_playOut 108 = .ok (.iload_n 1, 1) ∧ decode cX5_playOut 109 = .ok (.iload_n 3, 1) ∧ decode cX5_playOut 110 = .ok (.iconst 1, 1) ∧ decode cX5_playOut 111 = .ok (.isub, 1) ∧ decode cX5_playOut 112 = .ok (.invokevirtual 188, 3) := by decide +kernel
theorem e_X5_playOut_6 : decode cX5_playOut 115 = .ok (.ineg, 1) ∧ decode cX5_playOut 116 = .ok (.istore 9, 2) ∧ decode cX5_playOut 118 = .ok (.aload 4, 2) ∧ decode cX5_playOut 120 = .ok (.iload 5, 2) ∧ decode cX5_playOut 122 = .ok (.putfield 110, 3) ∧ decode cX5_playOut 125 = .ok (.aload 4, 2) ∧ decode cX5_playOut 127 = .ok (.iload 6, 2) ∧ decode cX5_playOut 129 = .ok (.putfield 115, 3) ∧ decode cX5_playOut 132 = .ok (.iload 9, 2) ∧ decode cX5_playOut 134 = .ok (.iload 7, 2) := by decide +kernel
theorem e_X5_playOut_7 : decode cX5_playOut 136 = .ok (.if_icmp .le 15, 3) ∧ decode cX5_playOut 139 = .ok (.iload 9, 2) ∧ decode cX5_playOut 141 = .ok (.istore 7, 2) ∧ decode cX5_playOut 143 = .ok (.aload_n 0, 1) ∧ decode cX5_playOut 144 = .ok (.getfield 46, 3) ∧ decode cX5_playOut 147 = .ok (.iload_n 3, 1) ∧ decode cX5_playOut 148 = .ok (.iload 8, 2) ∧ decode cX5_playOut 150 = .ok (.iastore, 1) ∧ decode cX5_playOut 151 = .ok (.iinc 8 1, 3) ∧ decode cX5_playOut 154 = .ok (.goto (-77), 3) := by decide +kernel
theorem e_X5_playOut_8 : decode cX5_playOut 157 = .ok (.iload 7, 2) ∧ decode cX5_playOut 159 = .ok (.ireturn, 1) := by decide +kernel
abbrev E_X5_playOut_77 (G : Kg) (d : Nat) (l1 l2 l3 l4 l5 l6 l7 l8 : Int) (σ : Kmem) (Q : Int → Kmem → Prop) : Prop := Ex G WX M_X5_playOut d 0 0 77 [(0, vA G 82), (1, vI l1), (2, vI l2), (3, vI l3), (4, vA G l4), (5, vI l5), (6, vI l6), (7, vI l7), (8, vI l8)] [] σ Q
theorem S_X5_playOut {G : Kg} {σ : Kmem} {Q : Int → Kmem → Prop} {d dr : Nat} (hd : 12 ≤ d) (hdr : dr + 1 ≤ d) {l1 l2 l3 : Int}  (h : (rI l3) ∧ ((l3 ≤ 0 → Run G WX M_X0_hourOfDay 0 0 0 [vA G 31] σ (fun r2 s3 => Run G WX M_X8_look 3 0 0 [vA G 58, vA G 31, vI r2] s3 (fun r4 s5 => Run G WX M_X8_fieldsOf 0 0 0 [vA G 58, vI l1] s5 (fun r6 s7 => Run G WX M_X8_fieldsOf 0 0 0 [vA G 58, vI l2] s7 (fun r8 s9 => Q (r6 - r8) s9))))) ∧ (0 < l3 → ((l3 ≤ 4 → (0 ≤ l1 ∧ l1 < 6) ∧ E_X5_playOut_77 G d l1 l2 l3 (31 + 6 + l1) (σ (31 + 6 + l1) 1) (σ (31 + 6 + l1) 2) (-64) 0 σ Q) ∧ (4 < l3 → Run G WX M_X0_hourOfDay 0 0 0 [vA G 31] σ (fun r11 s12 => Run G WX M_X8_look 3 0 0 [vA G 58, vA G 31, vI r11] s12 (fun r13 s14 => Run G WX M_X8_fieldsOf 0 0 0 [vA G 58, vI l1] s14 (fun r15 s16 => Run G WX M_X8_fieldsOf 0 0 0 [vA G 58, vI l2] s16 (fun r17 s18 => Q (r15 - r17) s18))))))))) : Run G WX M_X5_playOut d 0 0 [vA G 82, vI l1, vI l2, vI l3] σ Q := by
  refine Run.of (by decide +kernel) (by show (4 : Nat) ≤ 10; decide) ?_
  show Ex G WX M_X5_playOut d 0 0 0 [(0, vA G 82), (1, vI l1), (2, vI l2), (3, vI l3)] [] σ Q
  refine R_iload_n e_X5_playOut_0.1 3 rfl ?_
  obtain ⟨q1, h⟩ := h
  refine R_if_le 9 e_X5_playOut_0.2.1 (by decide) q1  (fun q => ?_) (fun q => ?_)
  · replace h := h.1 q
    refine R_aload_n e_X5_playOut_0.2.2.2.2.2.1 0 rfl ?_
    refine R_getA 5 1 58 e_X5_playOut_0.2.2.2.2.2.2.1 f_X5_68 kx_82 (fun _ _ => rfl) rx_82_1 (by decide) ?_
    refine R_aload_n e_X5_playOut_0.2.2.2.2.2.2.2.1 0 rfl ?_
    refine R_getA 5 0 31 e_X5_playOut_0.2.2.2.2.2.2.2.2.1 f_X5_64 kx_82 (fun _ _ => rfl) rx_82_0 (by decide) ?_
    refine R_aload_n e_X5_playOut_0.2.2.2.2.2.2.2.2.2 0 rfl ?_
    refine R_getA 5 0 31 e_X5_playOut_1.1 f_X5_64 kx_82 (fun _ _ => rfl) rx_82_0 (by decide) ?_
    refine R_callV (mc := 0) (ms := 0) (mc' := 0) (ms' := 0) (M' := M_X0_hourOfDay) (d' := 0) (as := []) (st := [vA G 31, vA G 58]) 0 0 e_X5_playOut_1.2.1 (kCVof m_X0_hourOfDay l_X5_145) rfl (by decide) (kC_self isC_31) (by omega) (by decide) rfl rfl (by show (2 : Nat) ≤ 8; decide) ?_
    refine Run.mono h (fun r2 s3 h => ?_)
    refine R_eqs (st2 := [vI r2, vA G 31, vA G 58]) rfl rfl ?_
    refine R_callV (mc := 0) (ms := 0) (mc' := 0) (ms' := 0) (M' := M_X8_look) (d' := 3) (as := [vA G 31, vI r2]) (st := []) 8 2 e_X5_playOut_1.2.2.1 (kCVof m_X8_look l_X5_148) rfl (by decide) kx_58 (by omega) (by decide) rfl rfl (by show (0 : Nat) ≤ 8; decide) ?_
    refine Run.mono h (fun r4 s5 h => ?_)
    refine R_eqs (st2 := []) rfl rfl ?_
    refine R_aload_n e_X5_playOut_1.2.2.2.1 0 rfl ?_
    refine R_getA 5 1 58 e_X5_playOut_1.2.2.2.2.1 f_X5_68 kx_82 (fun _ _ => rfl) rx_82_1 (by decide) ?_
    refine R_iload_n e_X5_playOut_1.2.2.2.2.2.1 1 rfl ?_
    refine R_callV (mc := 0) (ms := 0) (mc' := 0) (ms' := 0) (M' := M_X8_fieldsOf) (d' := 0) (as := [vI l1]) (st := []) 8 1 e_X5_playOut_1.2.2.2.2.2.2.1 (kCVof m_X8_fieldsOf l_X5_192) rfl (by decide) kx_58 (by omega) (by decide) rfl rfl (by show (0 : Nat) ≤ 8; decide) ?_
    refine Run.mono h (fun r6 s7 h => ?_)
    refine R_eqs (st2 := [vI r6]) rfl rfl ?_
    refine R_aload_n e_X5_playOut_1.2.2.2.2.2.2.2.1 0 rfl ?_
    refine R_getA 5 1 58 e_X5_playOut_1.2.2.2.2.2.2.2.2.1 f_X5_68 kx_82 (fun _ _ => rfl) rx_82_1 (by decide) ?_
    refine R_iload_n e_X5_playOut_1.2.2.2.2.2.2.2.2.2 2 rfl ?_
    refine R_callV (mc := 0) (ms := 0) (mc' := 0) (ms' := 0) (M' := M_X8_fieldsOf) (d' := 0) (as := [vI l2]) (st := [vI r6]) 8 1 e_X5_playOut_2.1 (kCVof m_X8_fieldsOf l_X5_192) rfl (by decide) kx_58 (by omega) (by decide) rfl rfl (by show (1 : Nat) ≤ 8; decide) ?_
    refine Run.mono h (fun r8 s9 h => ?_)
    refine R_eqs (st2 := [vI r8, vI r6]) rfl rfl ?_
    refine R_isub e_X5_playOut_2.2.1 ?_
    exact R_ireturn e_X5_playOut_2.2.2.1 rfl h
  · replace h := h.2 q
    refine R_iload_n e_X5_playOut_0.2.2.1 3 rfl ?_
    refine R_iconst e_X5_playOut_0.2.2.2.1 ?_
    refine R_icmp_le 45 e_X5_playOut_0.2.2.2.2.1 (by decide) q1 (by decide) (fun q => ?_) (fun q => ?_)
    · replace h := h.1 q
      refine R_aload_n e_X5_playOut_2.2.2.2.1 0 rfl ?_
      refine R_getA 5 0 31 e_X5_playOut_2.2.2.2.2.1 f_X5_64 kx_82 (fun _ _ => rfl) rx_82_0 (by decide) ?_
      refine R_getA 0 10 (31 + 3) e_X5_playOut_2.2.2.2.2.2.1 f_X5_106 (kC_self isC_31) (fun _ _ => rfl) (kC_r10 isC_31) (kC_n3 isC_31) ?_
      refine R_iload_n e_X5_playOut_2.2.2.2.2.2.2.1 1 rfl ?_
      obtain ⟨q10, h⟩ := h
      refine R_aald 27 6 (31 + 6 + l1) e_X5_playOut_2.2.2.2.2.2.2.2.1 (by decide) (kC_kites isC_31) q10 (kC_kiteAt isC_31 q10) (kC_kiteN isC_31 q10) ?_
      refine R_astore (ls2 := [(4, vA G (31 + 6 + l1)), (0, vA G 82), (1, vI l1), (2, vI l2), (3, vI l3)]) e_X5_playOut_2.2.2.2.2.2.2.2.2.1 (by decide) rfl ?_
      refine R_aload e_X5_playOut_2.2.2.2.2.2.2.2.2.2 0 rfl ?_
      refine R_getI 3 1 1 e_X5_playOut_3.1 f_X5_110 (kC_kite isC_31 q10) (fun _ _ => rfl) rfl ?_
      refine R_istore (ls2 := [(5, vI (σ (31 + 6 + l1) 1)), (4, vA G (31 + 6 + l1)), (0, vA G 82), (1, vI l1), (2, vI l2), (3, vI l3)]) e_X5_playOut_3.2.1 (by decide) rfl ?_
      refine R_aload e_X5_playOut_3.2.2.1 1 rfl ?_
      refine R_getI 3 2 2 e_X5_playOut_3.2.2.2.1 f_X5_115 (kC_kite isC_31 q10) (fun _ _ => rfl) rfl ?_
      refine R_istore (ls2 := [(6, vI (σ (31 + 6 + l1) 2)), (5, vI (σ (31 + 6 + l1) 1)), (4, vA G (31 + 6 + l1)), (0, vA G 82), (1, vI l1), (2, vI l2), (3, vI l3)]) e_X5_playOut_3.2.2.2.2.1 (by decide) rfl ?_
      refine R_bipush e_X5_playOut_3.2.2.2.2.2.1 (by decide) ?_
      refine R_istore (ls2 := [(7, vI (-64)), (6, vI (σ (31 + 6 + l1) 2)), (5, vI (σ (31 + 6 + l1) 1)), (4, vA G (31 + 6 + l1)), (0, vA G 82), (1, vI l1), (2, vI l2), (3, vI l3)]) e_X5_playOut_3.2.2.2.2.2.2.1 (by decide) rfl ?_
      refine R_iconst e_X5_playOut_3.2.2.2.2.2.2.2.1 ?_
      refine R_istore (ls2 := [(8, vI 0), (7, vI (-64)), (6, vI (σ (31 + 6 + l1) 2)), (5, vI (σ (31 + 6 + l1) 1)), (4, vA G (31 + 6 + l1)), (0, vA G 82), (1, vI l1), (2, vI l2), (3, vI l3)]) e_X5_playOut_3.2.2.2.2.2.2.2.2.1 (by decide) rfl ?_
      refine R_ls (ls2 := [(0, vA G 82), (1, vI l1), (2, vI l2), (3, vI l3), (4, vA G (31 + 6 + l1)), (5, vI (σ (31 + 6 + l1) 1)), (6, vI (σ (31 + 6 + l1) 2)), (7, vI (-64)), (8, vI 0)]) [5, 6, 7, 8, 4, 3, 2, 1, 0] rfl ?_
      exact h
    · replace h := h.2 q
      refine R_aload_n e_X5_playOut_0.2.2.2.2.2.1 0 rfl ?_
      refine R_getA 5 1 58 e_X5_playOut_0.2.2.2.2.2.2.1 f_X5_68 kx_82 (fun _ _ => rfl) rx_82_1 (by decide) ?_
      refine R_aload_n e_X5_playOut_0.2.2.2.2.2.2.2.1 0 rfl ?_
      refine R_getA 5 0 31 e_X5_playOut_0.2.2.2.2.2.2.2.2.1 f_X5_64 kx_82 (fun _ _ => rfl) rx_82_0 (by decide) ?_
      refine R_aload_n e_X5_playOut_0.2.2.2.2.2.2.2.2.2 0 rfl ?_
      refine R_getA 5 0 31 e_X5_playOut_1.1 f_X5_64 kx_82 (fun _ _ => rfl) rx_82_0 (by decide) ?_
      refine R_callV (mc := 0) (ms := 0) (mc' := 0) (ms' := 0) (M' := M_X0_hourOfDay) (d' := 0) (as := []) (st := [vA G 31, vA G 58]) 0 0 e_X5_playOut_1.2.1 (kCVof m_X0_hourOfDay l_X5_145) rfl (by decide) (kC_self isC_31) (by omega) (by decide) rfl rfl (by show (2 : Nat) ≤ 8; decide) ?_
      refine Run.mono h (fun r11 s12 h => ?_)
      refine R_eqs (st2 := [vI r11, vA G 31, vA G 58]) rfl rfl ?_
      refine R_callV (mc := 0) (ms := 0) (mc' := 0) (ms' := 0) (M' := M_X8_look) (d' := 3) (as := [vA G 31, vI r11]) (st := []) 8 2 e_X5_playOut_1.2.2.1 (kCVof m_X8_look l_X5_148) rfl (by decide) kx_58 (by omega) (by decide) rfl rfl (by show (0 : Nat) ≤ 8; decide) ?_
      refine Run.mono h (fun r13 s14 h => ?_)
      refine R_eqs (st2 := []) rfl rfl ?_
      refine R_aload_n e_X5_playOut_1.2.2.2.1 0 rfl ?_
      refine R_getA 5 1 58 e_X5_playOut_1.2.2.2.2.1 f_X5_68 kx_82 (fun _ _ => rfl) rx_82_1 (by decide) ?_
      refine R_iload_n e_X5_playOut_1.2.2.2.2.2.1 1 rfl ?_
      refine R_callV (mc := 0) (ms := 0) (mc' := 0) (ms' := 0) (M' := M_X8_fieldsOf) (d' := 0) (as := [vI l1]) (st := []) 8 1 e_X5_playOut_1.2.2.2.2.2.2.1 (kCVof m_X8_fieldsOf l_X5_192) rfl (by decide) kx_58 (by omega) (by decide) rfl rfl (by show (0 : Nat) ≤ 8; decide) ?_
      refine Run.mono h (fun r15 s16 h => ?_)
      refine R_eqs (st2 := [vI r15]) rfl rfl ?_
      refine R_aload_n e_X5_playOut_1.2.2.2.2.2.2.2.1 0 rfl ?_
      refine R_getA 5 1 58 e_X5_playOut_1.2.2.2.2.2.2.2.2.1 f_X5_68 kx_82 (fun _ _ => rfl) rx_82_1 (by decide) ?_
      refine R_iload_n e_X5_playOut_1.2.2.2.2.2.2.2.2.2 2 rfl ?_
      refine R_callV (mc := 0) (ms := 0) (mc' := 0) (ms' := 0) (M' := M_X8_fieldsOf) (d' := 0) (as := [vI l2]) (st := [vI r15]) 8 1 e_X5_playOut_2.1 (kCVof m_X8_fieldsOf l_X5_192) rfl (by decide) kx_58 (by omega) (by decide) rfl rfl (by show (1 : Nat) ≤ 8; decide) ?_
      refine Run.mono h (fun r17 s18 h => ?_)
      refine R_eqs (st2 := [vI r17, vI r15]) rfl rfl ?_
      refine R_isub e_X5_playOut_2.2.1 ?_
      exact R_ireturn e_X5_playOut_2.2.2.1 rfl h
theorem S_X5_playOut_77 {G : Kg} {σ : Kmem} {Q : Int → Kmem → Prop} {d dr : Nat} (hd : 12 ≤ d) (hdr : dr + 1 ≤ d) {l1 l2 l3 l4 l5 l6 l7 l8 : Int}  (hl4 : kIsX l4 3) (h : (rI l8) ∧ ((5 ≤ l8 → Q l7 σ) ∧ (l8 < 5 → Run G WX M_X0_mayStep 2 0 0 [vA G 31, vI l1, vI l8] σ (fun r20 s21 => (rI r20) ∧ ((r20 = 0 → E_X5_playOut_77 G d l1 l2 l3 l4 l5 l6 l7 (l8 + 1) s21 Q) ∧ (r20 ≠ 0 → Run G WX M_X0_stepHand 0 0 0 [vA G 31, vI l1, vI l8] s21 (fun r23 s24 => Run G WX M_X5_playOut dr 0 0 [vA G 82, vI l2, vI l1, vI (l3 - 1)] s24 (fun r25 s26 => (rI (-r25)) ∧ (rI l7) ∧ ((-r25 ≤ l7 → E_X5_playOut_77 G d l1 l2 l3 l4 l5 l6 l7 (l8 + 1) (kup (kup s26 l4 1 l5) l4 2 l6) Q) ∧ (l7 < -r25 → (0 ≤ l3 ∧ l3 < 5) ∧ E_X5_playOut_77 G d l1 l2 l3 l4 l5 l6 (-r25) (l8 + 1) (kup (kup (kup s26 l4 1 l5) l4 2 l6) 86 l3 l8) Q)))))))))) : E_X5_playOut_77 G d l1 l2 l3 l4 l5 l6 l7 l8 σ Q := by
  refine R_iload e_X5_playOut_3.2.2.2.2.2.2.2.2.2 8 rfl ?_
  refine R_iconst e_X5_playOut_4.1 ?_
  obtain ⟨q19, h⟩ := h
  refine R_icmp_ge 157 e_X5_playOut_4.2.1 (by decide) q19 (by decide) (fun q => ?_) (fun q => ?_)
  · replace h := h.1 q
    refine R_iload e_X5_playOut_8.1 7 rfl ?_
    exact R_ireturn e_X5_playOut_8.2 rfl h
  · replace h := h.2 q
    refine R_aload_n e_X5_playOut_4.2.2.1 0 rfl ?_
    refine R_getA 5 0 31 e_X5_playOut_4.2.2.2.1 f_X5_64 kx_82 (fun _ _ => rfl) rx_82_0 (by decide) ?_
    refine R_iload_n e_X5_playOut_4.2.2.2.2.1 1 rfl ?_
    refine R_iload e_X5_playOut_4.2.2.2.2.2.1 8 rfl ?_
    refine R_callV (mc := 0) (ms := 0) (mc' := 0) (ms' := 0) (M' := M_X0_mayStep) (d' := 2) (as := [vI l1, vI l8]) (st := []) 0 2 e_X5_playOut_4.2.2.2.2.2.2.1 (kCVof m_X0_mayStep l_X5_122) rfl (by decide) (kC_self isC_31) (by omega) (by decide) rfl rfl (by show (0 : Nat) ≤ 8; decide) ?_
    refine Run.mono h (fun r20 s21 h => ?_)
    refine R_eqs (st2 := [vI r20]) rfl rfl ?_
    obtain ⟨q22, h⟩ := h
    refine R_if_eq 151 e_X5_playOut_4.2.2.2.2.2.2.2.1 (by decide) q22  (fun q => ?_) (fun q => ?_)
    · replace h := h.1 q
      refine R_iinc (ls2 := [(8, vI (l8 + 1)), (0, vA G 82), (1, vI l1), (2, vI l2), (3, vI l3), (4, vA G l4), (5, vI l5), (6, vI l6), (7, vI l7)]) e_X5_playOut_7.2.2.2.2.2.2.2.2.1 8 rfl (by decide) rfl ?_
      refine R_goto 77 e_X5_playOut_7.2.2.2.2.2.2.2.2.2 (by decide) ?_
      refine R_ls (ls2 := [(0, vA G 82), (1, vI l1), (2, vI l2), (3, vI l3), (4, vA G l4), (5, vI l5), (6, vI l6), (7, vI l7), (8, vI (l8 + 1))]) [1, 2, 3, 4, 5, 6, 7, 8, 0] rfl ?_
      exact h
    · replace h := h.2 q
      refine R_aload_n e_X5_playOut_4.2.2.2.2.2.2.2.2.1 0 rfl ?_
      refine R_getA 5 0 31 e_X5_playOut_4.2.2.2.2.2.2.2.2.2 f_X5_64 kx_82 (fun _ _ => rfl) rx_82_0 (by decide) ?_
      refine R_iload_n e_X5_playOut_5.1 1 rfl ?_
      refine R_iload e_X5_playOut_5.2.1 8 rfl ?_
      refine R_callV (mc := 0) (ms := 0) (mc' := 0) (ms' := 0) (M' := M_X0_stepHand) (d' := 0) (as := [vI l1, vI l8]) (st := []) 0 2 e_X5_playOut_5.2.2.1 (kCVof m_X0_stepHand l_X5_126) rfl (by decide) (kC_self isC_31) (by omega) (by decide) rfl rfl (by show (0 : Nat) ≤ 8; decide) ?_
      refine Run.mono h (fun r23 s24 h => ?_)
      refine R_eqs (st2 := []) rfl rfl ?_
      refine R_aload_n e_X5_playOut_5.2.2.2.1 0 rfl ?_
      refine R_iload_n e_X5_playOut_5.2.2.2.2.1 2 rfl ?_
      refine R_iload_n e_X5_playOut_5.2.2.2.2.2.1 1 rfl ?_
      refine R_iload_n e_X5_playOut_5.2.2.2.2.2.2.1 3 rfl ?_
      refine R_iconst e_X5_playOut_5.2.2.2.2.2.2.2.1 ?_
      refine R_isub e_X5_playOut_5.2.2.2.2.2.2.2.2.1 ?_
      refine R_callV (mc := 0) (ms := 0) (mc' := 0) (ms' := 0) (M' := M_X5_playOut) (d' := dr) (as := [vI l2, vI l1, vI (l3 - 1)]) (st := []) 5 3 e_X5_playOut_5.2.2.2.2.2.2.2.2.2 (kCVof m_X5_playOut l_X5_188) rfl (by decide) kx_82 hdr (by decide) rfl rfl (by show (0 : Nat) ≤ 8; decide) ?_
      refine Run.mono h (fun r25 s26 h => ?_)
      refine R_eqs (st2 := [vI r25]) rfl rfl ?_
      refine R_ineg e_X5_playOut_6.1 ?_
      refine R_istore (ls2 := [(9, vI (-r25)), (0, vA G 82), (1, vI l1), (2, vI l2), (3, vI l3), (4, vA G l4), (5, vI l5), (6, vI l6), (7, vI l7), (8, vI l8)]) e_X5_playOut_6.2.1 (by decide) rfl ?_
      refine R_aload e_X5_playOut_6.2.2.1 5 rfl ?_
      refine R_iload e_X5_playOut_6.2.2.2.1 6 rfl ?_
      refine R_putI 3 1 1 WX_ok e_X5_playOut_6.2.2.2.2.1 f_X5_110 (kLX hl4) rfl rfl rfl ?_
      refine R_aload e_X5_playOut_6.2.2.2.2.2.1 5 rfl ?_
      refine R_iload e_X5_playOut_6.2.2.2.2.2.2.1 7 rfl ?_
      refine R_putI 3 2 2 WX_ok e_X5_playOut_6.2.2.2.2.2.2.2.1 f_X5_115 (kLX hl4) rfl rfl rfl ?_
      refine R_iload e_X5_playOut_6.2.2.2.2.2.2.2.2.1 0 rfl ?_
      refine R_iload e_X5_playOut_6.2.2.2.2.2.2.2.2.2 8 rfl ?_
      obtain ⟨q27, h⟩ := h
      obtain ⟨q28, h⟩ := h
      refine R_icmp_le 151 e_X5_playOut_7.1 (by decide) q27 q28 (fun q => ?_) (fun q => ?_)
      · replace h := h.1 q
        refine R_iinc (ls2 := [(8, vI (l8 + 1)), (9, vI (-r25)), (0, vA G 82), (1, vI l1), (2, vI l2), (3, vI l3), (4, vA G l4), (5, vI l5), (6, vI l6), (7, vI l7)]) e_X5_playOut_7.2.2.2.2.2.2.2.2.1 9 rfl (by decide) rfl ?_
        refine R_goto 77 e_X5_playOut_7.2.2.2.2.2.2.2.2.2 (by decide) ?_
        refine R_ls (ls2 := [(0, vA G 82), (1, vI l1), (2, vI l2), (3, vI l3), (4, vA G l4), (5, vI l5), (6, vI l6), (7, vI l7), (8, vI (l8 + 1))]) [2, 3, 4, 5, 6, 7, 8, 9, 0] rfl ?_
        exact h
      · replace h := h.2 q
        refine R_iload e_X5_playOut_7.2.1 0 rfl ?_
        refine R_istore (ls2 := [(7, vI (-r25)), (9, vI (-r25)), (0, vA G 82), (1, vI l1), (2, vI l2), (3, vI l3), (4, vA G l4), (5, vI l5), (6, vI l6), (8, vI l8)]) e_X5_playOut_7.2.2.1 (by decide) rfl ?_
        refine R_aload_n e_X5_playOut_7.2.2.2.1 2 rfl ?_
        refine R_getA 5 13 86 e_X5_playOut_7.2.2.2.2.1 f_X5_46 kx_82 (fun _ _ => rfl) rx_82_13 (by decide) ?_
        refine R_iload_n e_X5_playOut_7.2.2.2.2.2.1 5 rfl ?_
        refine R_iload e_X5_playOut_7.2.2.2.2.2.2.1 9 rfl ?_
        obtain ⟨q29, h⟩ := h
        refine R_iast 5 WX_ok e_X5_playOut_7.2.2.2.2.2.2.2.1 kxa_86 q29 ?_
        refine R_iinc (ls2 := [(8, vI (l8 + 1)), (7, vI (-r25)), (9, vI (-r25)), (0, vA G 82), (1, vI l1), (2, vI l2), (3, vI l3), (4, vA G l4), (5, vI l5), (6, vI l6)]) e_X5_playOut_7.2.2.2.2.2.2.2.2.1 9 rfl (by decide) rfl ?_
        refine R_goto 77 e_X5_playOut_7.2.2.2.2.2.2.2.2.2 (by decide) ?_
        refine R_ls (ls2 := [(0, vA G 82), (1, vI l1), (2, vI l2), (3, vI l3), (4, vA G l4), (5, vI l5), (6, vI l6), (7, vI (-r25)), (8, vI (l8 + 1))]) [3, 4, 5, 6, 7, 8, 9, 1, 0] rfl ?_
        exact h
