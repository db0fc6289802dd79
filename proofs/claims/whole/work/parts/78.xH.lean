/-! KiteLand$Life.drawStep()I -/
theorem e_X4_drawStep_0 : decode cX4_drawStep 0 = .ok (.aload_n 0, 1) ∧ decode cX4_drawStep 1 = .ok (.aload_n 0, 1) ∧ decode cX4_drawStep 2 = .ok (.getfield 34, 3) ∧ decode cX4_drawStep 5 = .ok (.sipush 3001, 3) ∧ decode cX4_drawStep 8 = .ok (.imul, 1) ∧ decode cX4_drawStep 9 = .ok (.sipush 11197, 3) ∧ decode cX4_drawStep 12 = .ok (.iadd, 1) ∧ decode cX4_drawStep 13 = .ok (.ldc 146, 2) ∧ decode cX4_drawStep 15 = .ok (.irem, 1) ∧ decode cX4_drawStep 16 = .ok (.putfield 34, 3) := by decide +kernel
theorem e_X4_drawStep_1 : decode cX4_drawStep 19 = .ok (.aload_n 0, 1) ∧ decode cX4_drawStep 20 = .ok (.getfield 34, 3) ∧ decode cX4_drawStep 23 = .ok (.bipush 8, 2) ∧ decode cX4_drawStep 25 = .ok (.idiv, 1) ∧ decode cX4_drawStep 26 = .ok (.iconst 4, 1) ∧ decode cX4_drawStep 27 = .ok (.irem, 1) ∧ decode cX4_drawStep 28 = .ok (.iconst 1, 1) ∧ decode cX4_drawStep 29 = .ok (.iadd, 1) ∧ decode cX4_drawStep 30 = .ok (.ireturn, 1) := by decide +kernel
theorem S_X4_drawStep {G : Kg} {σ : Kmem} {Q : Int → Kmem → Prop} {x : Int} (hx : isLf x) (h : (0 ≤ ((σ x 7) * 3001) + 11197 ∧ ((σ x 7) * 3001) + 11197 ≤ 2147483647) ∧ (0 ≤ (kup σ x 7 ((((σ x 7) * 3001) + 11197) % 65536)) x 7 ∧ (kup σ x 7 ((((σ x 7) * 3001) + 11197) % 65536)) x 7 ≤ 2147483647) ∧ (0 ≤ ((kup σ x 7 ((((σ x 7) * 3001) + 11197) % 65536)) x 7) / 8 ∧ ((kup σ x 7 ((((σ x 7) * 3001) + 11197) % 65536)) x 7) / 8 ≤ 2147483647) ∧ Q (((((kup σ x 7 ((((σ x 7) * 3001) + 11197) % 65536)) x 7) / 8) % 4) + 1) (kup σ x 7 ((((σ x 7) * 3001) + 11197) % 65536))) : Run G WX M_X4_drawStep 0 0 0 [vA G x] σ Q := by
  refine Run.of (by decide +kernel) (by show (1 : Nat) ≤ 1; decide) ?_
  show Ex G WX M_X4_drawStep 0 0 0 0 [(0, vA G x)] [] σ Q
  refine R_aload_n e_X4_drawStep_0.1 0 rfl ?_
  refine R_aload_n e_X4_drawStep_0.2.1 0 rfl ?_
  refine R_getI 4 7 7 e_X4_drawStep_0.2.2.1 f_X4_34 (kL_self hx) (fun _ _ => rfl) rfl ?_
  refine R_sipush e_X4_drawStep_0.2.2.2.1 (by decide) ?_
  refine R_imul e_X4_drawStep_0.2.2.2.2.1 ?_
  refine R_sipush e_X4_drawStep_0.2.2.2.2.2.1 (by decide) ?_
  refine R_iadd e_X4_drawStep_0.2.2.2.2.2.2.1 ?_
  refine R_ldc (65536) k_X4_146 e_X4_drawStep_0.2.2.2.2.2.2.2.1 ?_
  obtain ⟨q1, h⟩ := h
  refine R_irem e_X4_drawStep_0.2.2.2.2.2.2.2.2.1 q1 (by decide) ?_
  refine R_putI 4 7 7 WX_ok e_X4_drawStep_0.2.2.2.2.2.2.2.2.2 f_X4_34 (kL_self hx) rfl rfl rfl ?_
  refine R_aload_n e_X4_drawStep_1.1 0 rfl ?_
  refine R_getI 4 7 7 e_X4_drawStep_1.2.1 f_X4_34 (kL_self hx) (fun _ _ => rfl) rfl ?_
  refine R_bipush e_X4_drawStep_1.2.2.1 (by decide) ?_
  obtain ⟨q2, h⟩ := h
  refine R_idiv e_X4_drawStep_1.2.2.2.1 q2 (by decide) ?_
  refine R_iconst e_X4_drawStep_1.2.2.2.2.1 ?_
  obtain ⟨q3, h⟩ := h
  refine R_irem e_X4_drawStep_1.2.2.2.2.2.1 q3 (by decide) ?_
  refine R_iconst e_X4_drawStep_1.2.2.2.2.2.2.1 ?_
  refine R_iadd e_X4_drawStep_1.2.2.2.2.2.2.2.1 ?_
  exact R_ireturn e_X4_drawStep_1.2.2.2.2.2.2.2.2 rfl h
/-! KiteLand$Life.stepOrMiss(LKiteLand$County;II)V -/
theorem e_X4_stepOrMiss_0 : decode cX4_stepOrMiss 0 = .ok (.aload_n 1, 1) ∧ decode cX4_stepOrMiss 1 = .ok (.iload_n 2, 1) ∧ decode cX4_stepOrMiss 2 = .ok (.iload_n 3, 1) ∧ decode cX4_stepOrMiss 3 = .ok (.invokevirtual 102, 3) ∧ decode cX4_stepOrMiss 6 = .ok (.ifCond .eq 22, 3) ∧ decode cX4_stepOrMiss 9 = .ok (.aload_n 1, 1) ∧ decode cX4_stepOrMiss 10 = .ok (.iload_n 2, 1) ∧ decode cX4_stepOrMiss 11 = .ok (.iload_n 3, 1) ∧ decode cX4_stepOrMiss 12 = .ok (.invokevirtual 106, 3) ∧ decode cX4_stepOrMiss 15 = .ok (.aload_n 0, 1) := by decide +kernel
theorem e_X4_stepOrMiss_1 : decode cX4_stepOrMiss 16 = .ok (.dup, 1) ∧ decode cX4_stepOrMiss 17 = .ok (.getfield 25, 3) ∧ decode cX4_stepOrMiss 20 = .ok (.iconst 1, 1) ∧ decode cX4_stepOrMiss 21 = .ok (.iadd, 1) ∧ decode cX4_stepOrMiss 22 = .ok (.putfield 25, 3) ∧ decode cX4_stepOrMiss 25 = .ok (.goto 13, 3) ∧ decode cX4_stepOrMiss 28 = .ok (.aload_n 0, 1) ∧ decode cX4_stepOrMiss 29 = .ok (.dup, 1) ∧ decode cX4_stepOrMiss 30 = .ok (.getfield 19, 3) ∧ decode cX4_stepOrMiss 33 = .ok (.iconst 1, 1) := by decide +kernel
theorem e_X4_stepOrMiss_2 : decode cX4_stepOrMiss 34 = .ok (.iadd, 1) ∧ decode cX4_stepOrMiss 35 = .ok (.putfield 19, 3) ∧ decode cX4_stepOrMiss 38 = .ok (.return_, 1) := by decide +kernel
theorem S_X4_stepOrMiss {G : Kg} {σ : Kmem} {Q : Int → Kmem → Prop} {x c l2 l3 : Int} (hx : isLf x) (hc : isC c) (h : Run G WX M_X0_mayStep 2 0 0 [vA G c, vI l2, vI l3] σ (fun r1 s2 => (rI r1) ∧ ((r1 = 0 → Q 0 (kup s2 x 2 ((s2 x 2) + 1))) ∧ (r1 ≠ 0 → Run G WX M_X0_stepHand 0 0 0 [vA G c, vI l2, vI l3] s2 (fun r4 s5 => Q 0 (kup s5 x 4 ((s5 x 4) + 1))))))) : Run G WX M_X4_stepOrMiss 3 0 0 [vA G x, vA G c, vI l2, vI l3] σ Q := by
  refine Run.of (by decide +kernel) (by show (4 : Nat) ≤ 4; decide) ?_
  show Ex G WX M_X4_stepOrMiss 3 0 0 0 [(0, vA G x), (1, vA G c), (2, vI l2), (3, vI l3)] [] σ Q
  refine R_aload_n e_X4_stepOrMiss_0.1 1 rfl ?_
  refine R_iload_n e_X4_stepOrMiss_0.2.1 2 rfl ?_
  refine R_iload_n e_X4_stepOrMiss_0.2.2.1 3 rfl ?_
  refine R_callV (mc := 0) (ms := 0) (mc' := 0) (ms' := 0) (M' := M_X0_mayStep) (d' := 2) (as := [vI l2, vI l3]) (st := []) 0 2 e_X4_stepOrMiss_0.2.2.2.1 (kCVof m_X0_mayStep l_X4_102) rfl (by decide) (kC_self hc) (by decide) (by decide) rfl rfl (by show (0 : Nat) ≤ 8; decide) ?_
  refine Run.mono h (fun r1 s2 h => ?_)
  refine R_eqs (st2 := [vI r1]) rfl rfl ?_
  obtain ⟨q3, h⟩ := h
  refine R_if_eq 28 e_X4_stepOrMiss_0.2.2.2.2.1 (by decide) q3  (fun q => ?_) (fun q => ?_)
  · replace h := h.1 q
    refine R_aload_n e_X4_stepOrMiss_1.2.2.2.2.2.2.1 0 rfl ?_
    refine R_dup e_X4_stepOrMiss_1.2.2.2.2.2.2.2.1 rfl ?_
    refine R_getI 4 2 2 e_X4_stepOrMiss_1.2.2.2.2.2.2.2.2.1 f_X4_19 (kL_self hx) (fun _ _ => rfl) rfl ?_
    refine R_iconst e_X4_stepOrMiss_1.2.2.2.2.2.2.2.2.2 ?_
    refine R_iadd e_X4_stepOrMiss_2.1 ?_
    refine R_putI 4 2 2 WX_ok e_X4_stepOrMiss_2.2.1 f_X4_19 (kL_self hx) rfl rfl rfl ?_
    exact R_return e_X4_stepOrMiss_2.2.2 rfl h
  · replace h := h.2 q
    refine R_aload_n e_X4_stepOrMiss_0.2.2.2.2.2.1 1 rfl ?_
    refine R_iload_n e_X4_stepOrMiss_0.2.2.2.2.2.2.1 2 rfl ?_
    refine R_iload_n e_X4_stepOrMiss_0.2.2.2.2.2.2.2.1 3 rfl ?_
    refine R_callV (mc := 0) (ms := 0) (mc' := 0) (ms' := 0) (M' := M_X0_stepHand) (d' := 0) (as := [vI l2, vI l3]) (st := []) 0 2 e_X4_stepOrMiss_0.2.2.2.2.2.2.2.2.1 (kCVof m_X0_stepHand l_X4_106) rfl (by decide) (kC_self hc) (by decide) (by decide) rfl rfl (by show (0 : Nat) ≤ 8; decide) ?_
    refine Run.mono h (fun r4 s5 h => ?_)
    refine R_eqs (st2 := []) rfl rfl ?_
    refine R_aload_n e_X4_stepOrMiss_0.2.2.2.2.2.2.2.2.2 0 rfl ?_
    refine R_dup e_X4_stepOrMiss_1.1 rfl ?_
    refine R_getI 4 4 4 e_X4_stepOrMiss_1.2.1 f_X4_25 (kL_self hx) (fun _ _ => rfl) rfl ?_
    refine R_iconst e_X4_stepOrMiss_1.2.2.1 ?_
    refine R_iadd e_X4_stepOrMiss_1.2.2.2.1 ?_
    refine R_putI 4 4 4 WX_ok e_X4_stepOrMiss_1.2.2.2.2.1 f_X4_25 (kL_self hx) rfl rfl rfl ?_
    refine R_goto 38 e_X4_stepOrMiss_1.2.2.2.2.2.1 (by decide) ?_
    exact R_return e_X4_stepOrMiss_2.2.2 rfl h
/-! KiteLand$Life.putCut(LKiteLand$Kite;Z)V -/
theorem e_X4_putCut_0 : decode cX4_putCut 0 = .ok (.aload_n 1, 1) ∧ decode cX4_putCut 1 = .ok (.getfield 110, 3) ∧ decode cX4_putCut 4 = .ok (.iload_n 2, 1) ∧ decode cX4_putCut 5 = .ok (.if_icmp .ne 13, 3) ∧ decode cX4_putCut 8 = .ok (.aload_n 0, 1) ∧ decode cX4_putCut 9 = .ok (.dup, 1) ∧ decode cX4_putCut 10 = .ok (.getfield 19, 3) ∧ decode cX4_putCut 13 = .ok (.iconst 1, 1) ∧ decode cX4_putCut 14 = .ok (.iadd, 1) ∧ decode cX4_putCut 15 = .ok (.putfield 19, 3) := by decide +kernel
theorem e_X4_putCut_1 : decode cX4_putCut 18 = .ok (.aload_n 1, 1) ∧ decode cX4_putCut 19 = .ok (.iload_n 2, 1) ∧ decode cX4_putCut 20 = .ok (.putfield 110, 3) ∧ decode cX4_putCut 23 = .ok (.return_, 1) := by decide +kernel
theorem S_X4_putCut {G : Kg} {σ : Kmem} {Q : Int → Kmem → Prop} {x a l2 : Int} (hx : isLf x) (ha : kIsX a 3) (h : (rI (σ a 9)) ∧ (rI l2) ∧ ((σ a 9 ≠ l2 → (l2 = 0 ∨ l2 = 1) ∧ Q 0 (kup σ a 9 l2)) ∧ (σ a 9 = l2 → (l2 = 0 ∨ l2 = 1) ∧ Q 0 (kup (kup σ x 2 ((σ x 2) + 1)) a 9 l2)))) : Run G WX M_X4_putCut 0 0 0 [vA G x, vA G a, vI l2] σ Q := by
  refine Run.of (by decide +kernel) (by show (3 : Nat) ≤ 3; decide) ?_
  show Ex G WX M_X4_putCut 0 0 0 0 [(0, vA G x), (1, vA G a), (2, vI l2)] [] σ Q
  refine R_aload_n e_X4_putCut_0.1 1 rfl ?_
  refine R_getI 3 9 9 e_X4_putCut_0.2.1 f_X4_110 (kLX ha) (fun _ _ => rfl) rfl ?_
  refine R_iload_n e_X4_putCut_0.2.2.1 2 rfl ?_
  obtain ⟨q1, h⟩ := h
  obtain ⟨q2, h⟩ := h
  refine R_icmp_ne 18 e_X4_putCut_0.2.2.2.1 (by decide) q1 q2 (fun q => ?_) (fun q => ?_)
  · replace h := h.1 q
    refine R_aload_n e_X4_putCut_1.1 1 rfl ?_
    refine R_iload_n e_X4_putCut_1.2.1 2 rfl ?_
    obtain ⟨q3, h⟩ := h
    refine R_putZ 3 9 9 WX_ok e_X4_putCut_1.2.2.1 f_X4_110 (kLX ha) rfl rfl rfl q3 ?_
    exact R_return e_X4_putCut_1.2.2.2 rfl h
  · replace h := h.2 q
    refine R_aload_n e_X4_putCut_0.2.2.2.2.1 0 rfl ?_
    refine R_dup e_X4_putCut_0.2.2.2.2.2.1 rfl ?_
    refine R_getI 4 2 2 e_X4_putCut_0.2.2.2.2.2.2.1 f_X4_19 (kL_self hx) (fun _ _ => rfl) rfl ?_
    refine R_iconst e_X4_putCut_0.2.2.2.2.2.2.2.1 ?_
    refine R_iadd e_X4_putCut_0.2.2.2.2.2.2.2.2.1 ?_
    refine R_putI 4 2 2 WX_ok e_X4_putCut_0.2.2.2.2.2.2.2.2.2 f_X4_19 (kL_self hx) rfl rfl rfl ?_
    refine R_aload_n e_X4_putCut_1.1 1 rfl ?_
    refine R_iload_n e_X4_putCut_1.2.1 2 rfl ?_
    obtain ⟨q4, h⟩ := h
    refine R_putZ 3 9 9 WX_ok e_X4_putCut_1.2.2.1 f_X4_110 (kLX ha) rfl rfl rfl q4 ?_
    exact R_return e_X4_putCut_1.2.2.2 rfl h
/-! KiteLand$Life.holds(LKiteLand$Seasons;ILKiteLand$County;LKiteLand$Sky;)Z -/
theorem e_X4_holds_0 : decode cX4_holds 0 = .ok (.aload_n 1, 1) ∧ decode cX4_holds 1 = .ok (.getfield 61, 3) ∧ decode cX4_holds 4 = .ok (.iload_n 2, 1) ∧ decode cX4_holds 5 = .ok (.iaload, 1) ∧ decode cX4_holds 6 = .ok (.istore 5, 2) ∧ decode cX4_holds 8 = .ok (.aload_n 1, 1) ∧ decode cX4_holds 9 = .ok (.getfield 64, 3) ∧ decode cX4_holds 12 = .ok (.iload_n 2, 1) ∧ decode cX4_holds 13 = .ok (.iaload, 1) ∧ decode cX4_holds 14 = .ok (.istore 6, 2) := by decide +kernel
theorem e_X4_holds_1 : decode cX4_holds 16 = .ok (.aload_n 1, 1) ∧ decode cX4_holds 17 = .ok (.getfield 115, 3) ∧ decode cX4_holds 20 = .ok (.iload_n 2, 1) ∧ decode cX4_holds 21 = .ok (.iaload, 1) ∧ decode cX4_holds 22 = .ok (.tableswitch 104 1 4 #[30, 51, 72, 93], 30) ∧ decode cX4_holds 52 = .ok (.aload_n 3, 1) ∧ decode cX4_holds 53 = .ok (.getfield 86, 3) ∧ decode cX4_holds 56 = .ok (.iload 5, 2) ∧ decode cX4_holds 58 = .ok (.aaload, 1) ∧ decode cX4_holds 59 = .ok (.getfield 118, 3) := by decide +kernel
theorem e_X4_holds_2 : decode cX4_holds 62 = .ok (.iload 6, 2) ∧ decode cX4_holds 64 = .ok (.if_icmp .ge 7, 3) ∧ decode cX4_holds 67 = .ok (.iconst 1, 1) ∧ decode cX4_holds 68 = .ok (.goto 4, 3) ∧ decode cX4_holds 71 = .ok (.iconst 0, 1) ∧ decode cX4_holds 72 = .ok (.ireturn, 1) ∧ decode cX4_holds 73 = .ok (.aload_n 3, 1) ∧ decode cX4_holds 74 = .ok (.getfield 86, 3) ∧ decode cX4_holds 77 = .ok (.iload 5, 2) ∧ decode cX4_holds 79 = .ok (.aaload, 1) := by decide +kernel
theorem e_X4_holds_3 : decode cX4_holds 80 = .ok (.getfield 118, 3) ∧ decode cX4_holds 83 = .ok (.iload 6, 2) ∧ decode cX4_holds 85 = .ok (.if_icmp .le 7, 3) ∧ decode cX4_holds 88 = .ok (.iconst 1, 1) ∧ decode cX4_holds 89 = .ok (.goto 4, 3) ∧ decode cX4_holds 92 = .ok (.iconst 0, 1) ∧ decode cX4_holds 93 = .ok (.ireturn, 1) ∧ decode cX4_holds 94 = .ok (.aload_n 3, 1) ∧ decode cX4_holds 95 = .ok (.getfield 86, 3) ∧ decode cX4_holds 98 = .ok (.iload 5, 2) := by decide +kernel
theorem e_X4_holds_4 : decode cX4_holds 100 = .ok (.aaload, 1) ∧ decode cX4_holds 101 = .ok (.getfield 118, 3) ∧ decode cX4_holds 104 = .ok (.iload 6, 2) ∧ decode cX4_holds 106 = .ok (.if_icmp .ne 7, 3) ∧ decode cX4_holds 109 = .ok (.iconst 1, 1) ∧ decode cX4_holds 110 = .ok (.goto 4, 3) ∧ decode cX4_holds 113 = .ok (.iconst 0, 1) ∧ decode cX4_holds 114 = .ok (.ireturn, 1) ∧ decode cX4_holds 115 = .ok (.aload_n 3, 1) ∧ decode cX4_holds 116 = .ok (.getfield 121, 3) := by decide +kernel
theorem e_X4_holds_5 : decode cX4_holds 119 = .ok (.iload 5, 2) ∧ decode cX4_holds 121 = .ok (.aaload, 1) ∧ decode cX4_holds 122 = .ok (.invokevirtual 125, 3) ∧ decode cX4_holds 125 = .ok (.ireturn, 1) ∧ decode cX4_holds 126 = .ok (.aload 4, 2) ∧ decode cX4_holds 128 = .ok (.aload_n 3, 1) ∧ decode cX4_holds 129 = .ok (.aload_n 3, 1) ∧ decode cX4_holds 130 = .ok (.invokevirtual 131, 3) ∧ decode cX4_holds 133 = .ok (.aload_n 3, 1) ∧ decode cX4_holds 134 = .ok (.invokevirtual 134, 3) := by decide +kernel
theorem e_X4_holds_6 : decode cX4_holds 137 = .ok (.invokevirtual 137, 3) ∧ decode cX4_holds 140 = .ok (.aload 4, 2) ∧ decode cX4_holds 142 = .ok (.iload 5, 2) ∧ decode cX4_holds 144 = .ok (.invokevirtual 142, 3) ∧ decode cX4_holds 147 = .ok (.ireturn, 1) := by decide +kernel
theorem S_X4_holds {G : Kg} {σ : Kmem} {Q : Int → Kmem → Prop} {x s l2 c : Int} (hx : isLf x) (hs : isS s) (hc : isC c) (h : (0 ≤ l2 ∧ l2 < 60) ∧ (0 ≤ l2 ∧ l2 < 60) ∧ (0 ≤ l2 ∧ l2 < 60) ∧ (rI (σ (s + 2) l2)) ∧ ((σ (s + 2) l2 = 1 → (0 ≤ σ (s + 3) l2 ∧ σ (s + 3) l2 < 6) ∧ (rI (σ (c + 6 + (σ (s + 3) l2)) 7)) ∧ (rI (σ (s + 4) l2)) ∧ ((σ (s + 4) l2 ≤ σ (c + 6 + (σ (s + 3) l2)) 7 → Q 0 σ) ∧ (σ (c + 6 + (σ (s + 3) l2)) 7 < σ (s + 4) l2 → Q 1 σ))) ∧ (σ (s + 2) l2 = 2 → (0 ≤ σ (s + 3) l2 ∧ σ (s + 3) l2 < 6) ∧ (rI (σ (c + 6 + (σ (s + 3) l2)) 7)) ∧ (rI (σ (s + 4) l2)) ∧ ((σ (c + 6 + (σ (s + 3) l2)) 7 ≤ σ (s + 4) l2 → Q 0 σ) ∧ (σ (s + 4) l2 < σ (c + 6 + (σ (s + 3) l2)) 7 → Q 1 σ))) ∧ (σ (s + 2) l2 = 3 → (0 ≤ σ (s + 3) l2 ∧ σ (s + 3) l2 < 6) ∧ (rI (σ (c + 6 + (σ (s + 3) l2)) 7)) ∧ (rI (σ (s + 4) l2)) ∧ ((σ (c + 6 + (σ (s + 3) l2)) 7 ≠ σ (s + 4) l2 → Q 0 σ) ∧ (σ (c + 6 + (σ (s + 3) l2)) 7 = σ (s + 4) l2 → Q 1 σ))) ∧ (σ (s + 2) l2 = 4 → (0 ≤ σ (s + 3) l2 ∧ σ (s + 3) l2 < 8) ∧ Run G WX M_X2_isRipe 0 0 0 [vA G (c + 12 + (σ (s + 3) l2))] σ (fun r15 s16 => (r15 = 0 ∨ r15 = 1) ∧ Q r15 s16)) ∧ (σ (s + 2) l2 < 1 ∨ 4 < σ (s + 2) l2 → (0 ≤ σ c 4 ∧ σ c 4 ≤ 2147483647) ∧ Run G WX M_X0_cutSet 0 0 0 [vA G c] σ (fun r21 s22 => Run G WX M_X8_raise 1 0 0 [vA G 58, vA G c, vI ((σ c 4) % 12), vI r21] s22 (fun r23 s24 => Run G WX M_X8_isUp 0 0 0 [vA G 58, vI (σ (s + 3) l2)] s24 (fun r25 s26 => (r25 = 0 ∨ r25 = 1) ∧ Q r25 s26)))))) : Run G WX M_X4_holds 2 0 0 [vA G x, vA G s, vI l2, vA G c, vA G 58] σ Q := by
  refine Run.of (by decide +kernel) (by show (5 : Nat) ≤ 7; decide) ?_
  show Ex G WX M_X4_holds 2 0 0 0 [(0, vA G x), (1, vA G s), (2, vI l2), (3, vA G c), (4, vA G 58)] [] σ Q
  refine R_aload_n e_X4_holds_0.1 1 rfl ?_
  refine R_getA 7 5 (s + 3) e_X4_holds_0.2.1 f_X4_61 (kS_self hs) (fun _ _ => rfl) (kS_r5 hs) (kS_n3 hs) ?_
  refine R_iload_n e_X4_holds_0.2.2.1 2 rfl ?_
  obtain ⟨q1, h⟩ := h
  refine R_iald 60 e_X4_holds_0.2.2.2.1 (kS_things hs) q1 ?_
  refine R_istore (ls2 := [(5, vI (σ (s + 3) l2)), (0, vA G x), (1, vA G s), (2, vI l2), (3, vA G c), (4, vA G 58)]) e_X4_holds_0.2.2.2.2.1 (by decide) rfl ?_
  refine R_aload_n e_X4_holds_0.2.2.2.2.2.1 2 rfl ?_
  refine R_getA 7 6 (s + 4) e_X4_holds_0.2.2.2.2.2.2.1 f_X4_64 (kS_self hs) (fun _ _ => rfl) (kS_r6 hs) (kS_n4 hs) ?_
  refine R_iload_n e_X4_holds_0.2.2.2.2.2.2.2.1 3 rfl ?_
  obtain ⟨q2, h⟩ := h
  refine R_iald 60 e_X4_holds_0.2.2.2.2.2.2.2.2.1 (kS_nums hs) q2 ?_
  refine R_istore (ls2 := [(6, vI (σ (s + 4) l2)), (5, vI (σ (s + 3) l2)), (0, vA G x), (1, vA G s), (2, vI l2), (3, vA G c), (4, vA G 58)]) e_X4_holds_0.2.2.2.2.2.2.2.2.2 (by decide) rfl ?_
  refine R_aload_n e_X4_holds_1.1 3 rfl ?_
  refine R_getA 7 4 (s + 2) e_X4_holds_1.2.1 f_X4_115 (kS_self hs) (fun _ _ => rfl) (kS_r4 hs) (kS_n2 hs) ?_
  refine R_iload_n e_X4_holds_1.2.2.1 4 rfl ?_
  obtain ⟨q3, h⟩ := h
  refine R_iald 60 e_X4_holds_1.2.2.2.1 (kS_tests hs) q3 ?_
  obtain ⟨q4, h⟩ := h
  by_cases t1 : σ (s + 2) l2 = 1
  · refine R_tableIn 52 e_X4_holds_1.2.2.2.2.1 q4 (by omega) (by omega) (off := 30) (by rw [t1]; rfl) (by decide) ?_
    replace h := h.1 t1
    refine R_aload_n e_X4_holds_1.2.2.2.2.2.1 5 rfl ?_
    refine R_getA 0 10 (c + 3) e_X4_holds_1.2.2.2.2.2.2.1 f_X4_86 (kC_self hc) (fun _ _ => rfl) (kC_r10 hc) (kC_n3 hc) ?_
    refine R_iload e_X4_holds_1.2.2.2.2.2.2.2.1 1 rfl ?_
    obtain ⟨q5, h⟩ := h
    refine R_aald 27 6 (c + 6 + (σ (s + 3) l2)) e_X4_holds_1.2.2.2.2.2.2.2.2.1 (by decide) (kC_kites hc) q5 (kC_kiteAt hc q5) (kC_kiteN hc q5) ?_
    refine R_getI 3 7 7 e_X4_holds_1.2.2.2.2.2.2.2.2.2 f_X4_118 (kC_kite hc q5) (fun _ _ => rfl) rfl ?_
    refine R_iload e_X4_holds_2.1 0 rfl ?_
    obtain ⟨q6, h⟩ := h
    obtain ⟨q7, h⟩ := h
    refine R_icmp_ge 71 e_X4_holds_2.2.1 (by decide) q6 q7 (fun q => ?_) (fun q => ?_)
    · replace h := h.1 q
      refine R_iconst e_X4_holds_2.2.2.2.2.1 ?_
      exact R_zreturn e_X4_holds_2.2.2.2.2.2.1 rfl (Or.inl rfl) h
    · replace h := h.2 q
      refine R_iconst e_X4_holds_2.2.2.1 ?_
      refine R_goto 72 e_X4_holds_2.2.2.2.1 (by decide) ?_
      exact R_zreturn e_X4_holds_2.2.2.2.2.2.1 rfl (Or.inr rfl) h
  by_cases t2 : σ (s + 2) l2 = 2
  · refine R_tableIn 73 e_X4_holds_1.2.2.2.2.1 q4 (by omega) (by omega) (off := 51) (by rw [t2]; rfl) (by decide) ?_
    replace h := h.2.1 t2
    refine R_aload_n e_X4_holds_2.2.2.2.2.2.2.1 5 rfl ?_
    refine R_getA 0 10 (c + 3) e_X4_holds_2.2.2.2.2.2.2.2.1 f_X4_86 (kC_self hc) (fun _ _ => rfl) (kC_r10 hc) (kC_n3 hc) ?_
    refine R_iload e_X4_holds_2.2.2.2.2.2.2.2.2.1 1 rfl ?_
    obtain ⟨q8, h⟩ := h
    refine R_aald 27 6 (c + 6 + (σ (s + 3) l2)) e_X4_holds_2.2.2.2.2.2.2.2.2.2 (by decide) (kC_kites hc) q8 (kC_kiteAt hc q8) (kC_kiteN hc q8) ?_
    refine R_getI 3 7 7 e_X4_holds_3.1 f_X4_118 (kC_kite hc q8) (fun _ _ => rfl) rfl ?_
    refine R_iload e_X4_holds_3.2.1 0 rfl ?_
    obtain ⟨q9, h⟩ := h
    obtain ⟨q10, h⟩ := h
    refine R_icmp_le 92 e_X4_holds_3.2.2.1 (by decide) q9 q10 (fun q => ?_) (fun q => ?_)
    · replace h := h.1 q
      refine R_iconst e_X4_holds_3.2.2.2.2.2.1 ?_
      exact R_zreturn e_X4_holds_3.2.2.2.2.2.2.1 rfl (Or.inl rfl) h
    · replace h := h.2 q
      refine R_iconst e_X4_holds_3.2.2.2.1 ?_
      refine R_goto 93 e_X4_holds_3.2.2.2.2.1 (by decide) ?_
      exact R_zreturn e_X4_holds_3.2.2.2.2.2.2.1 rfl (Or.inr rfl) h
  by_cases t3 : σ (s + 2) l2 = 3
  · refine R_tableIn 94 e_X4_holds_1.2.2.2.2.1 q4 (by omega) (by omega) (off := 72) (by rw [t3]; rfl) (by decide) ?_
    replace h := h.2.2.1 t3
    refine R_aload_n e_X4_holds_3.2.2.2.2.2.2.2.1 5 rfl ?_
    refine R_getA 0 10 (c + 3) e_X4_holds_3.2.2.2.2.2.2.2.2.1 f_X4_86 (kC_self hc) (fun _ _ => rfl) (kC_r10 hc) (kC_n3 hc) ?_
    refine R_iload e_X4_holds_3.2.2.2.2.2.2.2.2.2 1 rfl ?_
    obtain ⟨q11, h⟩ := h
    refine R_aald 27 6 (c + 6 + (σ (s + 3) l2)) e_X4_holds_4.1 (by decide) (kC_kites hc) q11 (kC_kiteAt hc q11) (kC_kiteN hc q11) ?_
    refine R_getI 3 7 7 e_X4_holds_4.2.1 f_X4_118 (kC_kite hc q11) (fun _ _ => rfl) rfl ?_
    refine R_iload e_X4_holds_4.2.2.1 0 rfl ?_
    obtain ⟨q12, h⟩ := h
    obtain ⟨q13, h⟩ := h
    refine R_icmp_ne 113 e_X4_holds_4.2.2.2.1 (by decide) q12 q13 (fun q => ?_) (fun q => ?_)
    · replace h := h.1 q
      refine R_iconst e_X4_holds_4.2.2.2.2.2.2.1 ?_
      exact R_zreturn e_X4_holds_4.2.2.2.2.2.2.2.1 rfl (Or.inl rfl) h
    · replace h := h.2 q
      refine R_iconst e_X4_holds_4.2.2.2.2.1 ?_
      refine R_goto 114 e_X4_holds_4.2.2.2.2.2.1 (by decide) ?_
      exact R_zreturn e_X4_holds_4.2.2.2.2.2.2.2.1 rfl (Or.inr rfl) h
  by_cases t4 : σ (s + 2) l2 = 4
  · refine R_tableIn 115 e_X4_holds_1.2.2.2.2.1 q4 (by omega) (by omega) (off := 93) (by rw [t4]; rfl) (by decide) ?_
    replace h := h.2.2.2.1 t4
    refine R_aload_n e_X4_holds_4.2.2.2.2.2.2.2.2.1 5 rfl ?_
    refine R_getA 0 11 (c + 4) e_X4_holds_4.2.2.2.2.2.2.2.2.2 f_X4_121 (kC_self hc) (fun _ _ => rfl) (kC_r11 hc) (kC_n4 hc) ?_
    refine R_iload e_X4_holds_5.1 1 rfl ?_
    obtain ⟨q14, h⟩ := h
    refine R_aald 28 8 (c + 12 + (σ (s + 3) l2)) e_X4_holds_5.2.1 (by decide) (kC_crops hc) q14 (kC_cropAt hc q14) (kC_cropN hc q14) ?_
    refine R_callV (mc := 0) (ms := 0) (mc' := 0) (ms' := 0) (M' := M_X2_isRipe) (d' := 0) (as := []) (st := []) 2 0 e_X4_holds_5.2.2.1 (kCVof m_X2_isRipe l_X4_125) rfl (by decide) (kC_crop hc q14) (by decide) (by decide) rfl rfl (by show (0 : Nat) ≤ 8; decide) ?_
    refine Run.mono h (fun r15 s16 h => ?_)
    refine R_eqs (st2 := [vI r15]) rfl rfl ?_
    obtain ⟨q17, h⟩ := h
    exact R_zreturn e_X4_holds_5.2.2.2.1 rfl q17 h
  refine R_tableOut 126 e_X4_holds_1.2.2.2.2.1 q4 (by omega) (by decide) ?_
  replace h := h.2.2.2.2 (by omega)
  refine R_aload e_X4_holds_5.2.2.2.2.1 6 rfl ?_
  refine R_aload_n e_X4_holds_5.2.2.2.2.2.1 5 rfl ?_
  refine R_aload_n e_X4_holds_5.2.2.2.2.2.2.1 5 rfl ?_
  refine R_callV (mc := 0) (ms := 0) (mc' := 0) (ms' := 0) (M' := M_X0_hourOfDay) (d' := 0) (as := []) (st := [vA G c, vA G 58]) 0 0 e_X4_holds_5.2.2.2.2.2.2.2.1 (kCVof m_X0_hourOfDay l_X4_131) rfl (by decide) (kC_self hc) (by decide) (by decide) rfl rfl (by show (2 : Nat) ≤ 8; decide) ?_
  obtain ⟨q20, h⟩ := h
  refine S_X0_hourOfDay hc ⟨q20, ?_⟩
  refine R_eqs (st2 := [vI ((σ c 4) % 12), vA G c, vA G 58]) (σ2 := σ) rfl rfl ?_
  refine R_aload_n e_X4_holds_5.2.2.2.2.2.2.2.2.1 5 rfl ?_
  refine R_callV (mc := 0) (ms := 0) (mc' := 0) (ms' := 0) (M' := M_X0_cutSet) (d' := 0) (as := []) (st := [vI ((σ c 4) % 12), vA G c, vA G 58]) 0 0 e_X4_holds_5.2.2.2.2.2.2.2.2.2 (kCVof m_X0_cutSet l_X4_134) rfl (by decide) (kC_self hc) (by decide) (by decide) rfl rfl (by show (3 : Nat) ≤ 8; decide) ?_
  refine Run.mono h (fun r21 s22 h => ?_)
  refine R_eqs (st2 := [vI r21, vI ((σ c 4) % 12), vA G c, vA G 58]) rfl rfl ?_
  refine R_callV (mc := 0) (ms := 0) (mc' := 0) (ms' := 0) (M' := M_X8_raise) (d' := 1) (as := [vA G c, vI ((σ c 4) % 12), vI r21]) (st := []) 8 3 e_X4_holds_6.1 (kCVof m_X8_raise l_X4_137) rfl (by decide) kx_58 (by decide) (by decide) rfl rfl (by show (0 : Nat) ≤ 8; decide) ?_
  refine Run.mono h (fun r23 s24 h => ?_)
  refine R_eqs (st2 := []) rfl rfl ?_
  refine R_aload e_X4_holds_6.2.1 6 rfl ?_
  refine R_iload e_X4_holds_6.2.2.1 1 rfl ?_
  refine R_callV (mc := 0) (ms := 0) (mc' := 0) (ms' := 0) (M' := M_X8_isUp) (d' := 0) (as := [vI (σ (s + 3) l2)]) (st := []) 8 1 e_X4_holds_6.2.2.2.1 (kCVof m_X8_isUp l_X4_142) rfl (by decide) kx_58 (by decide) (by decide) rfl rfl (by show (0 : Nat) ≤ 8; decide) ?_
  refine Run.mono h (fun r25 s26 h => ?_)
  refine R_eqs (st2 := [vI r25]) rfl rfl ?_
  obtain ⟨q27, h⟩ := h
  exact R_zreturn e_X4_holds_6.2.2.2.2 rfl q27 h
/-! KiteLand$Life.behindEnd(LKiteLand$Seasons;I)I -/
theorem e_X4_behindEnd_0 : decode cX4_behindEnd 0 = .ok (.aload_n 1, 1) ∧ decode cX4_behindEnd 1 = .ok (.getfield 58, 3) ∧ decode cX4_behindEnd 4 = .ok (.iload_n 2, 1) ∧ decode cX4_behindEnd 5 = .ok (.iaload, 1) ∧ decode cX4_behindEnd 6 = .ok (.istore_n 3, 1) ∧ decode cX4_behindEnd 7 = .ok (.aload_n 1, 1) ∧ decode cX4_behindEnd 8 = .ok (.getfield 47, 3) ∧ decode cX4_behindEnd 11 = .ok (.iload_n 3, 1) ∧ decode cX4_behindEnd 12 = .ok (.iaload, 1) ∧ decode cX4_behindEnd 13 = .ok (.bipush 7, 2) := by decide +kernel
theorem e_X4_behindEnd_1 : decode cX4_behindEnd 15 = .ok (.if_icmp .ne 26, 3) ∧ decode cX4_behindEnd 18 = .ok (.aload_n 0, 1) ∧ decode cX4_behindEnd 19 = .ok (.getfield 39, 3) ∧ decode cX4_behindEnd 22 = .ok (.iload_n 3, 1) ∧ decode cX4_behindEnd 23 = .ok (.dup2, 1) ∧ decode cX4_behindEnd 24 = .ok (.iaload, 1) ∧ decode cX4_behindEnd 25 = .ok (.iconst 1, 1) ∧ decode cX4_behindEnd 26 = .ok (.isub, 1) ∧ decode cX4_behindEnd 27 = .ok (.iastore, 1) ∧ decode cX4_behindEnd 28 = .ok (.aload_n 0, 1) := by decide +kernel
theorem e_X4_behindEnd_2 : decode cX4_behindEnd 29 = .ok (.getfield 39, 3) ∧ decode cX4_behindEnd 32 = .ok (.iload_n 3, 1) ∧ decode cX4_behindEnd 33 = .ok (.iaload, 1) ∧ decode cX4_behindEnd 34 = .ok (.ifCond .le 7, 3) ∧ decode cX4_behindEnd 37 = .ok (.iload_n 3, 1) ∧ decode cX4_behindEnd 38 = .ok (.iconst 1, 1) ∧ decode cX4_behindEnd 39 = .ok (.iadd, 1) ∧ decode cX4_behindEnd 40 = .ok (.ireturn, 1) ∧ decode cX4_behindEnd 41 = .ok (.iload_n 2, 1) ∧ decode cX4_behindEnd 42 = .ok (.iconst 1, 1) := by decide +kernel
theorem e_X4_behindEnd_3 : decode cX4_behindEnd 43 = .ok (.iadd, 1) ∧ decode cX4_behindEnd 44 = .ok (.ireturn, 1) := by decide +kernel
theorem S_X4_behindEnd {G : Kg} {σ : Kmem} {Q : Int → Kmem → Prop} {x s l2 : Int} (hx : isLf x) (hs : isS s) (h : (0 ≤ l2 ∧ l2 < 60) ∧ (0 ≤ σ (s + 5) l2 ∧ σ (s + 5) l2 < 60) ∧ (rI (σ (s + 1) (σ (s + 5) l2))) ∧ ((σ (s + 1) (σ (s + 5) l2) ≠ 7 → Q (l2 + 1) σ) ∧ (σ (s + 1) (σ (s + 5) l2) = 7 → (0 ≤ σ (s + 5) l2 ∧ σ (s + 5) l2 < 60) ∧ (0 ≤ σ (s + 5) l2 ∧ σ (s + 5) l2 < 60) ∧ (0 ≤ σ (s + 5) l2 ∧ σ (s + 5) l2 < 60) ∧ (rI ((kup σ (x + 1) (σ (s + 5) l2) ((σ (x + 1) (σ (s + 5) l2)) - 1)) (x + 1) (σ (s + 5) l2))) ∧ (((kup σ (x + 1) (σ (s + 5) l2) ((σ (x + 1) (σ (s + 5) l2)) - 1)) (x + 1) (σ (s + 5) l2) ≤ 0 → Q (l2 + 1) (kup σ (x + 1) (σ (s + 5) l2) ((σ (x + 1) (σ (s + 5) l2)) - 1))) ∧ (0 < (kup σ (x + 1) (σ (s + 5) l2) ((σ (x + 1) (σ (s + 5) l2)) - 1)) (x + 1) (σ (s + 5) l2) → Q ((σ (s + 5) l2) + 1) (kup σ (x + 1) (σ (s + 5) l2) ((σ (x + 1) (σ (s + 5) l2)) - 1))))))) : Run G WX M_X4_behindEnd 0 0 0 [vA G x, vA G s, vI l2] σ Q := by
  refine Run.of (by decide +kernel) (by show (3 : Nat) ≤ 4; decide) ?_
  show Ex G WX M_X4_behindEnd 0 0 0 0 [(0, vA G x), (1, vA G s), (2, vI l2)] [] σ Q
  refine R_aload_n e_X4_behindEnd_0.1 1 rfl ?_
  refine R_getA 7 7 (s + 5) e_X4_behindEnd_0.2.1 f_X4_58 (kS_self hs) (fun _ _ => rfl) (kS_r7 hs) (kS_n5 hs) ?_
  refine R_iload_n e_X4_behindEnd_0.2.2.1 2 rfl ?_
  obtain ⟨q1, h⟩ := h
  refine R_iald 60 e_X4_behindEnd_0.2.2.2.1 (kS_parts hs) q1 ?_
  refine R_istore_n (ls2 := [(3, vI (σ (s + 5) l2)), (0, vA G x), (1, vA G s), (2, vI l2)]) e_X4_behindEnd_0.2.2.2.2.1 (by decide) rfl ?_
  refine R_aload_n e_X4_behindEnd_0.2.2.2.2.2.1 2 rfl ?_
  refine R_getA 7 3 (s + 1) e_X4_behindEnd_0.2.2.2.2.2.2.1 f_X4_47 (kS_self hs) (fun _ _ => rfl) (kS_r3 hs) (kS_n1 hs) ?_
  refine R_iload_n e_X4_behindEnd_0.2.2.2.2.2.2.2.1 0 rfl ?_
  obtain ⟨q2, h⟩ := h
  refine R_iald 60 e_X4_behindEnd_0.2.2.2.2.2.2.2.2.1 (kS_kinds hs) q2 ?_
  refine R_bipush e_X4_behindEnd_0.2.2.2.2.2.2.2.2.2 (by decide) ?_
  obtain ⟨q3, h⟩ := h
  refine R_icmp_ne 41 e_X4_behindEnd_1.1 (by decide) q3 (by decide) (fun q => ?_) (fun q => ?_)
  · replace h := h.1 q
    refine R_iload_n e_X4_behindEnd_2.2.2.2.2.2.2.2.2.1 3 rfl ?_
    refine R_iconst e_X4_behindEnd_2.2.2.2.2.2.2.2.2.2 ?_
    refine R_iadd e_X4_behindEnd_3.1 ?_
    exact R_ireturn e_X4_behindEnd_3.2 rfl h
  · replace h := h.2 q
    refine R_aload_n e_X4_behindEnd_1.2.1 1 rfl ?_
    refine R_getA 4 8 (x + 1) e_X4_behindEnd_1.2.2.1 f_X4_39 (kL_self hx) (fun _ _ => rfl) (kL_r8 hx) (kL_n1 hx) ?_
    refine R_iload_n e_X4_behindEnd_1.2.2.2.1 0 rfl ?_
    refine R_dup2 e_X4_behindEnd_1.2.2.2.2.1 rfl rfl ?_
    obtain ⟨q4, h⟩ := h
    refine R_iald 60 e_X4_behindEnd_1.2.2.2.2.2.1 (kL_rounds hx) q4 ?_
    refine R_iconst e_X4_behindEnd_1.2.2.2.2.2.2.1 ?_
    refine R_isub e_X4_behindEnd_1.2.2.2.2.2.2.2.1 ?_
    obtain ⟨q5, h⟩ := h
    refine R_iast 60 WX_ok e_X4_behindEnd_1.2.2.2.2.2.2.2.2.1 (kL_rounds hx) q5 ?_
    refine R_aload_n e_X4_behindEnd_1.2.2.2.2.2.2.2.2.2 1 rfl ?_
    refine R_getA 4 8 (x + 1) e_X4_behindEnd_2.1 f_X4_39 (kL_self hx) (fun _ _ => rfl) (kL_r8 hx) (kL_n1 hx) ?_
    refine R_iload_n e_X4_behindEnd_2.2.1 0 rfl ?_
    obtain ⟨q6, h⟩ := h
    refine R_iald 60 e_X4_behindEnd_2.2.2.1 (kL_rounds hx) q6 ?_
    obtain ⟨q7, h⟩ := h
    refine R_if_le 41 e_X4_behindEnd_2.2.2.2.1 (by decide) q7  (fun q => ?_) (fun q => ?_)
    · replace h := h.1 q
      refine R_iload_n e_X4_behindEnd_2.2.2.2.2.2.2.2.2.1 3 rfl ?_
      refine R_iconst e_X4_behindEnd_2.2.2.2.2.2.2.2.2.2 ?_
      refine R_iadd e_X4_behindEnd_3.1 ?_
      exact R_ireturn e_X4_behindEnd_3.2 rfl h
    · replace h := h.2 q
      refine R_iload_n e_X4_behindEnd_2.2.2.2.2.1 0 rfl ?_
      refine R_iconst e_X4_behindEnd_2.2.2.2.2.2.1 ?_
      refine R_iadd e_X4_behindEnd_2.2.2.2.2.2.2.1 ?_
      exact R_ireturn e_X4_behindEnd_2.2.2.2.2.2.2.2.1 rfl h
/-! KiteLand$Life.behindStep(LKiteLand$Seasons;ILKiteLand$County;LKiteLand$Sky;)I -/
theorem e_X4_behindStep_0 : decode cX4_behindStep 0 = .ok (.aload_n 1, 1) ∧ decode cX4_behindStep 1 = .ok (.getfield 61, 3) ∧ decode cX4_behindStep 4 = .ok (.iload_n 2, 1) ∧ decode cX4_behindStep 5 = .ok (.iaload, 1) ∧ decode cX4_behindStep 6 = .ok (.istore 5, 2) ∧ decode cX4_behindStep 8 = .ok (.aload_n 1, 1) ∧ decode cX4_behindStep 9 = .ok (.getfield 64, 3) ∧ decode cX4_behindStep 12 = .ok (.iload_n 2, 1) ∧ decode cX4_behindStep 13 = .ok (.iaload, 1) ∧ decode cX4_behindStep 14 = .ok (.istore 6, 2) := by decide +kernel
theorem e_X4_behindStep_1 : decode cX4_behindStep 16 = .ok (.aload_n 1, 1) ∧ decode cX4_behindStep 17 = .ok (.getfield 47, 3) ∧ decode cX4_behindStep 20 = .ok (.iload_n 2, 1) ∧ decode cX4_behindStep 21 = .ok (.iaload, 1) ∧ decode cX4_behindStep 22 = .ok (.tableswitch 196 1 7 #[42, 102, 114, 129, 144, 158, 185], 42) ∧ decode cX4_behindStep 64 = .ok (.aload_n 3, 1) ∧ decode cX4_behindStep 65 = .ok (.getfield 67, 3) ∧ decode cX4_behindStep 68 = .ok (.iload 6, 2) ∧ decode cX4_behindStep 70 = .ok (.iadd, 1) ∧ decode cX4_behindStep 71 = .ok (.sipush 9999, 3) := by decide +kernel
theorem e_X4_behindStep_2 : decode cX4_behindStep 74 = .ok (.if_icmp .le 16, 3) ∧ decode cX4_behindStep 77 = .ok (.aload_n 0, 1) ∧ decode cX4_behindStep 78 = .ok (.dup, 1) ∧ decode cX4_behindStep 79 = .ok (.getfield 19, 3) ∧ decode cX4_behindStep 82 = .ok (.iconst 1, 1) ∧ decode cX4_behindStep 83 = .ok (.iadd, 1) ∧ decode cX4_behindStep 84 = .ok (.putfield 19, 3) ∧ decode cX4_behindStep 87 = .ok (.goto 136, 3) ∧ decode cX4_behindStep 90 = .ok (.aload_n 0, 1) ∧ decode cX4_behindStep 91 = .ok (.dup, 1) := by decide +kernel
theorem e_X4_behindStep_3 : decode cX4_behindStep 92 = .ok (.getfield 22, 3) ∧ decode cX4_behindStep 95 = .ok (.iload 6, 2) ∧ decode cX4_behindStep 97 = .ok (.iadd, 1) ∧ decode cX4_behindStep 98 = .ok (.putfield 22, 3) ∧ decode cX4_behindStep 101 = .ok (.aload_n 0, 1) ∧ decode cX4_behindStep 102 = .ok (.dup, 1) ∧ decode cX4_behindStep 103 = .ok (.getfield 28, 3) ∧ decode cX4_behindStep 106 = .ok (.aload_n 3, 1) ∧ decode cX4_behindStep 107 = .ok (.aload 4, 2) ∧ decode cX4_behindStep 109 = .ok (.iload 6, 2) := by decide +kernel
theorem e_X4_behindStep_4 : decode cX4_behindStep 111 = .ok (.invokevirtual 72, 3) ∧ decode cX4_behindStep 114 = .ok (.invokestatic 76, 3) ∧ decode cX4_behindStep 117 = .ok (.iadd, 1) ∧ decode cX4_behindStep 118 = .ok (.putfield 28, 3) ∧ decode cX4_behindStep 121 = .ok (.goto 102, 3) ∧ decode cX4_behindStep 124 = .ok (.aload_n 0, 1) ∧ decode cX4_behindStep 125 = .ok (.aload_n 3, 1) ∧ decode cX4_behindStep 126 = .ok (.iload 5, 2) ∧ decode cX4_behindStep 128 = .ok (.iload 6, 2) ∧ decode cX4_behindStep 130 = .ok (.invokevirtual 82, 3) := by decide +kernel
theorem e_X4_behindStep_5 : decode cX4_behindStep 133 = .ok (.goto 90, 3) ∧ decode cX4_behindStep 136 = .ok (.aload_n 0, 1) ∧ decode cX4_behindStep 137 = .ok (.aload_n 3, 1) ∧ decode cX4_behindStep 138 = .ok (.getfield 86, 3) ∧ decode cX4_behindStep 141 = .ok (.iload 5, 2) ∧ decode cX4_behindStep 143 = .ok (.aaload, 1) ∧ decode cX4_behindStep 144 = .ok (.iconst 1, 1) ∧ decode cX4_behindStep 145 = .ok (.invokevirtual 90, 3) ∧ decode cX4_behindStep 148 = .ok (.goto 75, 3) ∧ decode cX4_behindStep 151 = .ok (.aload_n 0, 1) := by decide +kernel
theorem e_X4_behindStep_6 : decode cX4_behindStep 152 = .ok (.aload_n 3, 1) ∧ decode cX4_behindStep 153 = .ok (.getfield 86, 3) ∧ decode cX4_behindStep 156 = .ok (.iload 5, 2) ∧ decode cX4_behindStep 158 = .ok (.aaload, 1) ∧ decode cX4_behindStep 159 = .ok (.iconst 0, 1) ∧ decode cX4_behindStep 160 = .ok (.invokevirtual 90, 3) ∧ decode cX4_behindStep 163 = .ok (.goto 60, 3) ∧ decode cX4_behindStep 166 = .ok (.aload_n 0, 1) ∧ decode cX4_behindStep 167 = .ok (.aload_n 3, 1) ∧ decode cX4_behindStep 168 = .ok (.iload 5, 2) := by decide +kernel
theorem e_X4_behindStep_7 : decode cX4_behindStep 170 = .ok (.aload_n 0, 1) ∧ decode cX4_behindStep 171 = .ok (.invokevirtual 94, 3) ∧ decode cX4_behindStep 174 = .ok (.invokevirtual 82, 3) ∧ decode cX4_behindStep 177 = .ok (.goto 46, 3) ∧ decode cX4_behindStep 180 = .ok (.aload_n 0, 1) ∧ decode cX4_behindStep 181 = .ok (.aload_n 1, 1) ∧ decode cX4_behindStep 182 = .ok (.iload_n 2, 1) ∧ decode cX4_behindStep 183 = .ok (.aload_n 3, 1) ∧ decode cX4_behindStep 184 = .ok (.aload 4, 2) ∧ decode cX4_behindStep 186 = .ok (.invokevirtual 98, 3) := by decide +kernel
theorem e_X4_behindStep_8 : decode cX4_behindStep 189 = .ok (.ifCond .eq 9, 3) ∧ decode cX4_behindStep 192 = .ok (.iload_n 2, 1) ∧ decode cX4_behindStep 193 = .ok (.iconst 1, 1) ∧ decode cX4_behindStep 194 = .ok (.iadd, 1) ∧ decode cX4_behindStep 195 = .ok (.goto 11, 3) ∧ decode cX4_behindStep 198 = .ok (.aload_n 1, 1) ∧ decode cX4_behindStep 199 = .ok (.getfield 58, 3) ∧ decode cX4_behindStep 202 = .ok (.iload_n 2, 1) ∧ decode cX4_behindStep 203 = .ok (.iaload, 1) ∧ decode cX4_behindStep 204 = .ok (.iconst 1, 1) := by decide +kernel
theorem e_X4_behindStep_9 : decode cX4_behindStep 205 = .ok (.iadd, 1) ∧ decode cX4_behindStep 206 = .ok (.ireturn, 1) ∧ decode cX4_behindStep 207 = .ok (.aload_n 0, 1) ∧ decode cX4_behindStep 208 = .ok (.getfield 39, 3) ∧ decode cX4_behindStep 211 = .ok (.iload_n 2, 1) ∧ decode cX4_behindStep 212 = .ok (.iload 6, 2) ∧ decode cX4_behindStep 214 = .ok (.iastore, 1) ∧ decode cX4_behindStep 215 = .ok (.goto 8, 3) ∧ decode cX4_behindStep 218 = .ok (.aload_n 1, 1) ∧ decode cX4_behindStep 219 = .ok (.getfield 44, 3) := by decide +kernel
theorem e_X4_behindStep_10 : decode cX4_behindStep 222 = .ok (.ireturn, 1) ∧ decode cX4_behindStep 223 = .ok (.iload_n 2, 1) ∧ decode cX4_behindStep 224 = .ok (.iconst 1, 1) ∧ decode cX4_behindStep 225 = .ok (.iadd, 1) ∧ decode cX4_behindStep 226 = .ok (.ireturn, 1) := by decide +kernel
theorem S_X4_behindStep {G : Kg} {σ : Kmem} {Q : Int → Kmem → Prop} {x s l2 c : Int} (hx : isLf x) (hs : isS s) (hc : isC c) (h : (0 ≤ l2 ∧ l2 < 60) ∧ (0 ≤ l2 ∧ l2 < 60) ∧ (0 ≤ l2 ∧ l2 < 60) ∧ (rI (σ (s + 1) l2)) ∧ ((σ (s + 1) l2 = 1 → (rI ((σ c 4) + (σ (s + 4) l2))) ∧ (((σ c 4) + (σ (s + 4) l2) ≤ 9999 → ∀ m6 : Kmem, m6 = (kup σ x 3 ((σ x 3) + (σ (s + 4) l2))) → Run G WX M_X0_goBy 4 0 0 [vA G c, vA G 58, vI (σ (s + 4) l2)] m6 (fun r8 s9 => Run G WX M_J6_bitCount_0f7a4 0 0 0 [vI r8] s9 (fun r10 s11 => ∀ m12 : Kmem, m12 = (kup s11 x 5 ((m6 x 5) + r10)) → Q (l2 + 1) m12))) ∧ (9999 < (σ c 4) + (σ (s + 4) l2) → ∀ m14 : Kmem, m14 = (kup σ x 2 ((σ x 2) + 1)) → Q (l2 + 1) m14))) ∧ (σ (s + 1) l2 = 2 → Run G WX M_X4_stepOrMiss 3 0 0 [vA G x, vA G c, vI (σ (s + 3) l2), vI (σ (s + 4) l2)] σ (fun r16 s17 => Q (l2 + 1) s17)) ∧ (σ (s + 1) l2 = 3 → (0 ≤ σ (s + 3) l2 ∧ σ (s + 3) l2 < 6) ∧ Run G WX M_X4_putCut 0 0 0 [vA G x, vA G (c + 6 + (σ (s + 3) l2)), vI 1] σ (fun r19 s20 => Q (l2 + 1) s20)) ∧ (σ (s + 1) l2 = 4 → (0 ≤ σ (s + 3) l2 ∧ σ (s + 3) l2 < 6) ∧ Run G WX M_X4_putCut 0 0 0 [vA G x, vA G (c + 6 + (σ (s + 3) l2)), vI 0] σ (fun r22 s23 => Q (l2 + 1) s23)) ∧ (σ (s + 1) l2 = 5 → (0 ≤ ((σ x 7) * 3001) + 11197 ∧ ((σ x 7) * 3001) + 11197 ≤ 2147483647) ∧ (0 ≤ (kup σ x 7 ((((σ x 7) * 3001) + 11197) % 65536)) x 7 ∧ (kup σ x 7 ((((σ x 7) * 3001) + 11197) % 65536)) x 7 ≤ 2147483647) ∧ (0 ≤ ((kup σ x 7 ((((σ x 7) * 3001) + 11197) % 65536)) x 7) / 8 ∧ ((kup σ x 7 ((((σ x 7) * 3001) + 11197) % 65536)) x 7) / 8 ≤ 2147483647) ∧ Run G WX M_X4_stepOrMiss 3 0 0 [vA G x, vA G c, vI (σ (s + 3) l2), vI (((((kup σ x 7 ((((σ x 7) * 3001) + 11197) % 65536)) x 7) / 8) % 4) + 1)] (kup σ x 7 ((((σ x 7) * 3001) + 11197) % 65536)) (fun r29 s30 => Q (l2 + 1) s30)) ∧ (σ (s + 1) l2 = 6 → Run G WX M_X4_holds 2 0 0 [vA G x, vA G s, vI l2, vA G c, vA G 58] σ (fun r31 s32 => (rI r31) ∧ ((r31 = 0 → (0 ≤ l2 ∧ l2 < 60) ∧ Q ((s32 (s + 5) l2) + 1) s32) ∧ (r31 ≠ 0 → Q (l2 + 1) s32)))) ∧ (σ (s + 1) l2 = 7 → (0 ≤ l2 ∧ l2 < 60) ∧ ∀ m36 : Kmem, m36 = (kup σ (x + 1) l2 (σ (s + 4) l2)) → Q (l2 + 1) m36) ∧ (σ (s + 1) l2 < 1 ∨ 7 < σ (s + 1) l2 → Q (σ s 2) σ))) : Run G WX M_X4_behindStep 5 0 0 [vA G x, vA G s, vI l2, vA G c, vA G 58] σ Q := by
  refine Run.of (by decide +kernel) (by show (5 : Nat) ≤ 7; decide) ?_
  show Ex G WX M_X4_behindStep 5 0 0 0 [(0, vA G x), (1, vA G s), (2, vI l2), (3, vA G c), (4, vA G 58)] [] σ Q
  refine R_aload_n e_X4_behindStep_0.1 1 rfl ?_
  refine R_getA 7 5 (s + 3) e_X4_behindStep_0.2.1 f_X4_61 (kS_self hs) (fun _ _ => rfl) (kS_r5 hs) (kS_n3 hs) ?_
  refine R_iload_n e_X4_behindStep_0.2.2.1 2 rfl ?_
  obtain ⟨q1, h⟩ := h
  refine R_iald 60 e_X4_behindStep_0.2.2.2.1 (kS_things hs) q1 ?_
  refine R_istore (ls2 := [(5, vI (σ (s + 3) l2)), (0, vA G x), (1, vA G s), (2, vI l2), (3, vA G c), (4, vA G 58)]) e_X4_behindStep_0.2.2.2.2.1 (by decide) rfl ?_
  refine R_aload_n e_X4_behindStep_0.2.2.2.2.2.1 2 rfl ?_
  refine R_getA 7 6 (s + 4) e_X4_behindStep_0.2.2.2.2.2.2.1 f_X4_64 (kS_self hs) (fun _ _ => rfl) (kS_r6 hs) (kS_n4 hs) ?_
  refine R_iload_n e_X4_behindStep_0.2.2.2.2.2.2.2.1 3 rfl ?_
  obtain ⟨q2, h⟩ := h
  refine R_iald 60 e_X4_behindStep_0.2.2.2.2.2.2.2.2.1 (kS_nums hs) q2 ?_
  refine R_istore (ls2 := [(6, vI (σ (s + 4) l2)), (5, vI (σ (s + 3) l2)), (0, vA G x), (1, vA G s), (2, vI l2), (3, vA G c), (4, vA G 58)]) e_X4_behindStep_0.2.2.2.2.2.2.2.2.2 (by decide) rfl ?_
  refine R_aload_n e_X4_behindStep_1.1 3 rfl ?_
  refine R_getA 7 3 (s + 1) e_X4_behindStep_1.2.1 f_X4_47 (kS_self hs) (fun _ _ => rfl) (kS_r3 hs) (kS_n1 hs) ?_
  refine R_iload_n e_X4_behindStep_1.2.2.1 4 rfl ?_
  obtain ⟨q3, h⟩ := h
  refine R_iald 60 e_X4_behindStep_1.2.2.2.1 (kS_kinds hs) q3 ?_
  obtain ⟨q4, h⟩ := h
  by_cases t1 : σ (s + 1) l2 = 1
  · refine R_tableIn 64 e_X4_behindStep_1.2.2.2.2.1 q4 (by omega) (by omega) (off := 42) (by rw [t1]; rfl) (by decide) ?_
    replace h := h.1 t1
    refine R_aload_n e_X4_behindStep_1.2.2.2.2.2.1 5 rfl ?_
    refine R_getI 0 4 4 e_X4_behindStep_1.2.2.2.2.2.2.1 f_X4_67 (kC_self hc) (fun _ _ => rfl) rfl ?_
    refine R_iload e_X4_behindStep_1.2.2.2.2.2.2.2.1 0 rfl ?_
    refine R_iadd e_X4_behindStep_1.2.2.2.2.2.2.2.2.1 ?_
    refine R_sipush e_X4_behindStep_1.2.2.2.2.2.2.2.2.2 (by decide) ?_
    obtain ⟨q5, h⟩ := h
    refine R_icmp_le 90 e_X4_behindStep_2.1 (by decide) q5 (by decide) (fun q => ?_) (fun q => ?_)
    · replace h := h.1 q
      refine R_aload_n e_X4_behindStep_2.2.2.2.2.2.2.2.2.1 2 rfl ?_
      refine R_dup e_X4_behindStep_2.2.2.2.2.2.2.2.2.2 rfl ?_
      refine R_getI 4 3 3 e_X4_behindStep_3.1 f_X4_22 (kL_self hx) (fun _ _ => rfl) rfl ?_
      refine R_iload e_X4_behindStep_3.2.1 0 rfl ?_
      refine R_iadd e_X4_behindStep_3.2.2.1 ?_
      refine R_putI 4 3 3 WX_ok e_X4_behindStep_3.2.2.2.1 f_X4_22 (kL_self hx) rfl rfl rfl ?_
      obtain ⟨m6, e7⟩ : ∃ z : Kmem, z = (kup σ x 3 ((σ x 3) + (σ (s + 4) l2))) := ⟨_, rfl⟩
      rw [← e7]
      replace h := h m6 e7
      refine R_aload_n e_X4_behindStep_3.2.2.2.2.1 2 rfl ?_
      refine R_dup e_X4_behindStep_3.2.2.2.2.2.1 rfl ?_
      refine R_getI 4 5 5 e_X4_behindStep_3.2.2.2.2.2.2.1 f_X4_28 (kL_self hx) (fun _ _ => rfl) rfl ?_
      refine R_aload_n e_X4_behindStep_3.2.2.2.2.2.2.2.1 5 rfl ?_
      refine R_aload e_X4_behindStep_3.2.2.2.2.2.2.2.2.1 6 rfl ?_
      refine R_iload e_X4_behindStep_3.2.2.2.2.2.2.2.2.2 0 rfl ?_
      refine R_callV (mc := 0) (ms := 0) (mc' := 0) (ms' := 0) (M' := M_X0_goBy) (d' := 4) (as := [vA G 58, vI (σ (s + 4) l2)]) (st := [vI (m6 x 5), vA G x]) 0 2 e_X4_behindStep_4.1 (kCVof m_X0_goBy l_X4_72) rfl (by decide) (kC_self hc) (by decide) (by decide) rfl rfl (by show (2 : Nat) ≤ 8; decide) ?_
      refine Run.mono h (fun r8 s9 h => ?_)
      refine R_eqs (st2 := [vI r8, vI (m6 x 5), vA G x]) rfl rfl ?_
      refine R_callS (mc := 0) (ms := 0) (mc' := 0) (ms' := 0) (M' := M_J6_bitCount_0f7a4) (d' := 0) (as := [vI r8]) (st := [vI (m6 x 5), vA G x]) 1 e_X4_behindStep_4.2.1 (kCSof m_J6_bitCount_0f7a4 l_X4_76) (by decide) (by decide) rfl rfl (by show (2 : Nat) ≤ 8; decide) ?_
      refine Run.mono h (fun r10 s11 h => ?_)
      refine R_eqs (st2 := [vI r10, vI (m6 x 5), vA G x]) rfl rfl ?_
      refine R_iadd e_X4_behindStep_4.2.2.1 ?_
      refine R_putI 4 5 5 WX_ok e_X4_behindStep_4.2.2.2.1 f_X4_28 (kL_self hx) rfl rfl rfl ?_
      obtain ⟨m12, e13⟩ : ∃ z : Kmem, z = (kup s11 x 5 ((m6 x 5) + r10)) := ⟨_, rfl⟩
      rw [← e13]
      replace h := h m12 e13
      refine R_goto 223 e_X4_behindStep_4.2.2.2.2.1 (by decide) ?_
      refine R_iload_n e_X4_behindStep_10.2.1 4 rfl ?_
      refine R_iconst e_X4_behindStep_10.2.2.1 ?_
      refine R_iadd e_X4_behindStep_10.2.2.2.1 ?_
      exact R_ireturn e_X4_behindStep_10.2.2.2.2 rfl h
    · replace h := h.2 q
      refine R_aload_n e_X4_behindStep_2.2.1 2 rfl ?_
      refine R_dup e_X4_behindStep_2.2.2.1 rfl ?_
      refine R_getI 4 2 2 e_X4_behindStep_2.2.2.2.1 f_X4_19 (kL_self hx) (fun _ _ => rfl) rfl ?_
      refine R_iconst e_X4_behindStep_2.2.2.2.2.1 ?_
      refine R_iadd e_X4_behindStep_2.2.2.2.2.2.1 ?_
      refine R_putI 4 2 2 WX_ok e_X4_behindStep_2.2.2.2.2.2.2.1 f_X4_19 (kL_self hx) rfl rfl rfl ?_
      obtain ⟨m14, e15⟩ : ∃ z : Kmem, z = (kup σ x 2 ((σ x 2) + 1)) := ⟨_, rfl⟩
      rw [← e15]
      replace h := h m14 e15
      refine R_goto 223 e_X4_behindStep_2.2.2.2.2.2.2.2.1 (by decide) ?_
      refine R_iload_n e_X4_behindStep_10.2.1 4 rfl ?_
      refine R_iconst e_X4_behindStep_10.2.2.1 ?_
      refine R_iadd e_X4_behindStep_10.2.2.2.1 ?_
      exact R_ireturn e_X4_behindStep_10.2.2.2.2 rfl h
  by_cases t2 : σ (s + 1) l2 = 2
  · refine R_tableIn 124 e_X4_behindStep_1.2.2.2.2.1 q4 (by omega) (by omega) (off := 102) (by rw [t2]; rfl) (by decide) ?_
    replace h := h.2.1 t2
    refine R_aload_n e_X4_behindStep_4.2.2.2.2.2.1 2 rfl ?_
    refine R_aload_n e_X4_behindStep_4.2.2.2.2.2.2.1 5 rfl ?_
    refine R_iload e_X4_behindStep_4.2.2.2.2.2.2.2.1 1 rfl ?_
    refine R_iload e_X4_behindStep_4.2.2.2.2.2.2.2.2.1 0 rfl ?_
    refine R_callV (mc := 0) (ms := 0) (mc' := 0) (ms' := 0) (M' := M_X4_stepOrMiss) (d' := 3) (as := [vA G c, vI (σ (s + 3) l2), vI (σ (s + 4) l2)]) (st := []) 4 3 e_X4_behindStep_4.2.2.2.2.2.2.2.2.2 (kCVof m_X4_stepOrMiss l_X4_82) rfl (by decide) (kL_self hx) (by decide) (by decide) rfl rfl (by show (0 : Nat) ≤ 8; decide) ?_
    refine Run.mono h (fun r16 s17 h => ?_)
    refine R_eqs (st2 := []) rfl rfl ?_
    refine R_goto 223 e_X4_behindStep_5.1 (by decide) ?_
    refine R_iload_n e_X4_behindStep_10.2.1 4 rfl ?_
    refine R_iconst e_X4_behindStep_10.2.2.1 ?_
    refine R_iadd e_X4_behindStep_10.2.2.2.1 ?_
    exact R_ireturn e_X4_behindStep_10.2.2.2.2 rfl h
  by_cases t3 : σ (s + 1) l2 = 3
  · refine R_tableIn 136 e_X4_behindStep_1.2.2.2.2.1 q4 (by omega) (by omega) (off := 114) (by rw [t3]; rfl) (by decide) ?_
    replace h := h.2.2.1 t3
    refine R_aload_n e_X4_behindStep_5.2.1 2 rfl ?_
    refine R_aload_n e_X4_behindStep_5.2.2.1 5 rfl ?_
    refine R_getA 0 10 (c + 3) e_X4_behindStep_5.2.2.2.1 f_X4_86 (kC_self hc) (fun _ _ => rfl) (kC_r10 hc) (kC_n3 hc) ?_
    refine R_iload e_X4_behindStep_5.2.2.2.2.1 1 rfl ?_
    obtain ⟨q18, h⟩ := h
    refine R_aald 27 6 (c + 6 + (σ (s + 3) l2)) e_X4_behindStep_5.2.2.2.2.2.1 (by decide) (kC_kites hc) q18 (kC_kiteAt hc q18) (kC_kiteN hc q18) ?_
    refine R_iconst e_X4_behindStep_5.2.2.2.2.2.2.1 ?_
    refine R_callV (mc := 0) (ms := 0) (mc' := 0) (ms' := 0) (M' := M_X4_putCut) (d' := 0) (as := [vA G (c + 6 + (σ (s + 3) l2)), vI 1]) (st := []) 4 2 e_X4_behindStep_5.2.2.2.2.2.2.2.1 (kCVof m_X4_putCut l_X4_90) rfl (by decide) (kL_self hx) (by decide) (by decide) rfl rfl (by show (0 : Nat) ≤ 8; decide) ?_
    refine Run.mono h (fun r19 s20 h => ?_)
    refine R_eqs (st2 := []) rfl rfl ?_
    refine R_goto 223 e_X4_behindStep_5.2.2.2.2.2.2.2.2.1 (by decide) ?_
    refine R_iload_n e_X4_behindStep_10.2.1 4 rfl ?_
    refine R_iconst e_X4_behindStep_10.2.2.1 ?_
    refine R_iadd e_X4_behindStep_10.2.2.2.1 ?_
    exact R_ireturn e_X4_behindStep_10.2.2.2.2 rfl h
  by_cases t4 : σ (s + 1) l2 = 4
  · refine R_tableIn 151 e_X4_behindStep_1.2.2.2.2.1 q4 (by omega) (by omega) (off := 129) (by rw [t4]; rfl) (by decide) ?_
    replace h := h.2.2.2.1 t4
    refine R_aload_n e_X4_behindStep_5.2.2.2.2.2.2.2.2.2 2 rfl ?_
    refine R_aload_n e_X4_behindStep_6.1 5 rfl ?_
    refine R_getA 0 10 (c + 3) e_X4_behindStep_6.2.1 f_X4_86 (kC_self hc) (fun _ _ => rfl) (kC_r10 hc) (kC_n3 hc) ?_
    refine R_iload e_X4_behindStep_6.2.2.1 1 rfl ?_
    obtain ⟨q21, h⟩ := h
    refine R_aald 27 6 (c + 6 + (σ (s + 3) l2)) e_X4_behindStep_6.2.2.2.1 (by decide) (kC_kites hc) q21 (kC_kiteAt hc q21) (kC_kiteN hc q21) ?_
    refine R_iconst e_X4_behindStep_6.2.2.2.2.1 ?_
    refine R_callV (mc := 0) (ms := 0) (mc' := 0) (ms' := 0) (M' := M_X4_putCut) (d' := 0) (as := [vA G (c + 6 + (σ (s + 3) l2)), vI 0]) (st := []) 4 2 e_X4_behindStep_6.2.2.2.2.2.1 (kCVof m_X4_putCut l_X4_90) rfl (by decide) (kL_self hx) (by decide) (by decide) rfl rfl (by show (0 : Nat) ≤ 8; decide) ?_
    refine Run.mono h (fun r22 s23 h => ?_)
    refine R_eqs (st2 := []) rfl rfl ?_
    refine R_goto 223 e_X4_behindStep_6.2.2.2.2.2.2.1 (by decide) ?_
    refine R_iload_n e_X4_behindStep_10.2.1 4 rfl ?_
    refine R_iconst e_X4_behindStep_10.2.2.1 ?_
    refine R_iadd e_X4_behindStep_10.2.2.2.1 ?_
    exact R_ireturn e_X4_behindStep_10.2.2.2.2 rfl h
  by_cases t5 : σ (s + 1) l2 = 5
  · refine R_tableIn 166 e_X4_behindStep_1.2.2.2.2.1 q4 (by omega) (by omega) (off := 144) (by rw [t5]; rfl) (by decide) ?_
    replace h := h.2.2.2.2.1 t5
    refine R_aload_n e_X4_behindStep_6.2.2.2.2.2.2.2.1 2 rfl ?_
    refine R_aload_n e_X4_behindStep_6.2.2.2.2.2.2.2.2.1 5 rfl ?_
    refine R_iload e_X4_behindStep_6.2.2.2.2.2.2.2.2.2 1 rfl ?_
    refine R_aload_n e_X4_behindStep_7.1 2 rfl ?_
    refine R_callV (mc := 0) (ms := 0) (mc' := 0) (ms' := 0) (M' := M_X4_drawStep) (d' := 0) (as := []) (st := [vI (σ (s + 3) l2), vA G c, vA G x]) 4 0 e_X4_behindStep_7.2.1 (kCVof m_X4_drawStep l_X4_94) rfl (by decide) (kL_self hx) (by decide) (by decide) rfl rfl (by show (3 : Nat) ≤ 8; decide) ?_
    obtain ⟨q26, h⟩ := h
    obtain ⟨q27, h⟩ := h
    obtain ⟨q28, h⟩ := h
    refine S_X4_drawStep hx ⟨q26, q27, q28, ?_⟩
    refine R_eqs (st2 := [vI (((((kup σ x 7 ((((σ x 7) * 3001) + 11197) % 65536)) x 7) / 8) % 4) + 1), vI (σ (s + 3) l2), vA G c, vA G x]) (σ2 := (kup σ x 7 ((((σ x 7) * 3001) + 11197) % 65536))) rfl rfl ?_
    refine R_callV (mc := 0) (ms := 0) (mc' := 0) (ms' := 0) (M' := M_X4_stepOrMiss) (d' := 3) (as := [vA G c, vI (σ (s + 3) l2), vI (((((kup σ x 7 ((((σ x 7) * 3001) + 11197) % 65536)) x 7) / 8) % 4) + 1)]) (st := []) 4 3 e_X4_behindStep_7.2.2.1 (kCVof m_X4_stepOrMiss l_X4_82) rfl (by decide) (kL_self hx) (by decide) (by decide) rfl rfl (by show (0 : Nat) ≤ 8; decide) ?_
    refine Run.mono h (fun r29 s30 h => ?_)
    refine R_eqs (st2 := []) rfl rfl ?_
    refine R_goto 223 e_X4_behindStep_7.2.2.2.1 (by decide) ?_
    refine R_iload_n e_X4_behindStep_10.2.1 4 rfl ?_
    refine R_iconst e_X4_behindStep_10.2.2.1 ?_
    refine R_iadd e_X4_behindStep_10.2.2.2.1 ?_
    exact R_ireturn e_X4_behindStep_10.2.2.2.2 rfl h
  by_cases t6 : σ (s + 1) l2 = 6
  · refine R_tableIn 180 e_X4_behindStep_1.2.2.2.2.1 q4 (by omega) (by omega) (off := 158) (by rw [t6]; rfl) (by decide) ?_
    replace h := h.2.2.2.2.2.1 t6
    refine R_aload_n e_X4_behindStep_7.2.2.2.2.1 2 rfl ?_
    refine R_aload_n e_X4_behindStep_7.2.2.2.2.2.1 3 rfl ?_
    refine R_iload_n e_X4_behindStep_7.2.2.2.2.2.2.1 4 rfl ?_
    refine R_aload_n e_X4_behindStep_7.2.2.2.2.2.2.2.1 5 rfl ?_
    refine R_aload e_X4_behindStep_7.2.2.2.2.2.2.2.2.1 6 rfl ?_
    refine R_callV (mc := 0) (ms := 0) (mc' := 0) (ms' := 0) (M' := M_X4_holds) (d' := 2) (as := [vA G s, vI l2, vA G c, vA G 58]) (st := []) 4 4 e_X4_behindStep_7.2.2.2.2.2.2.2.2.2 (kCVof m_X4_holds l_X4_98) rfl (by decide) (kL_self hx) (by decide) (by decide) rfl rfl (by show (0 : Nat) ≤ 8; decide) ?_
    refine Run.mono h (fun r31 s32 h => ?_)
    refine R_eqs (st2 := [vI r31]) rfl rfl ?_
    obtain ⟨q33, h⟩ := h
    refine R_if_eq 198 e_X4_behindStep_8.1 (by decide) q33  (fun q => ?_) (fun q => ?_)
    · replace h := h.1 q
      refine R_aload_n e_X4_behindStep_8.2.2.2.2.2.1 3 rfl ?_
      refine R_getA 7 7 (s + 5) e_X4_behindStep_8.2.2.2.2.2.2.1 f_X4_58 (kS_self hs) (fun _ _ => rfl) (kS_r7 hs) (kS_n5 hs) ?_
      refine R_iload_n e_X4_behindStep_8.2.2.2.2.2.2.2.1 4 rfl ?_
      obtain ⟨q34, h⟩ := h
      refine R_iald 60 e_X4_behindStep_8.2.2.2.2.2.2.2.2.1 (kS_parts hs) q34 ?_
      refine R_iconst e_X4_behindStep_8.2.2.2.2.2.2.2.2.2 ?_
      refine R_iadd e_X4_behindStep_9.1 ?_
      exact R_ireturn e_X4_behindStep_9.2.1 rfl h
    · replace h := h.2 q
      refine R_iload_n e_X4_behindStep_8.2.1 4 rfl ?_
      refine R_iconst e_X4_behindStep_8.2.2.1 ?_
      refine R_iadd e_X4_behindStep_8.2.2.2.1 ?_
      refine R_goto 206 e_X4_behindStep_8.2.2.2.2.1 (by decide) ?_
      exact R_ireturn e_X4_behindStep_9.2.1 rfl h
  by_cases t7 : σ (s + 1) l2 = 7
  · refine R_tableIn 207 e_X4_behindStep_1.2.2.2.2.1 q4 (by omega) (by omega) (off := 185) (by rw [t7]; rfl) (by decide) ?_
    replace h := h.2.2.2.2.2.2.1 t7
    refine R_aload_n e_X4_behindStep_9.2.2.1 2 rfl ?_
    refine R_getA 4 8 (x + 1) e_X4_behindStep_9.2.2.2.1 f_X4_39 (kL_self hx) (fun _ _ => rfl) (kL_r8 hx) (kL_n1 hx) ?_
    refine R_iload_n e_X4_behindStep_9.2.2.2.2.1 4 rfl ?_
    refine R_iload e_X4_behindStep_9.2.2.2.2.2.1 0 rfl ?_
    obtain ⟨q35, h⟩ := h
    refine R_iast 60 WX_ok e_X4_behindStep_9.2.2.2.2.2.2.1 (kL_rounds hx) q35 ?_
    obtain ⟨m36, e37⟩ : ∃ z : Kmem, z = (kup σ (x + 1) l2 (σ (s + 4) l2)) := ⟨_, rfl⟩
    rw [← e37]
    replace h := h m36 e37
    refine R_goto 223 e_X4_behindStep_9.2.2.2.2.2.2.2.1 (by decide) ?_
    refine R_iload_n e_X4_behindStep_10.2.1 4 rfl ?_
    refine R_iconst e_X4_behindStep_10.2.2.1 ?_
    refine R_iadd e_X4_behindStep_10.2.2.2.1 ?_
    exact R_ireturn e_X4_behindStep_10.2.2.2.2 rfl h
  refine R_tableOut 218 e_X4_behindStep_1.2.2.2.2.1 q4 (by omega) (by decide) ?_
  replace h := h.2.2.2.2.2.2.2 (by omega)
  refine R_aload_n e_X4_behindStep_9.2.2.2.2.2.2.2.2.1 3 rfl ?_
  refine R_getI 7 2 2 e_X4_behindStep_9.2.2.2.2.2.2.2.2.2 f_X4_44 (kS_self hs) (fun _ _ => rfl) rfl ?_
  exact R_ireturn e_X4_behindStep_10.1 rfl h
/-! KiteLand$Life.run(LKiteLand$Seasons;LKiteLand$County;LKiteLand$Sky;I)V -/
theorem e_X4_run_0 : decode cX4_run 0 = .ok (.aload_n 0, 1) ∧ decode cX4_run 1 = .ok (.iconst 1, 1) ∧ decode cX4_run 2 = .ok (.putfield 9, 3) ∧ decode cX4_run 5 = .ok (.aload_n 0, 1) ∧ decode cX4_run 6 = .ok (.iconst 0, 1) ∧ decode cX4_run 7 = .ok (.putfield 15, 3) ∧ decode cX4_run 10 = .ok (.aload_n 0, 1) ∧ decode cX4_run 11 = .ok (.iconst 0, 1) ∧ decode cX4_run 12 = .ok (.putfield 19, 3) ∧ decode cX4_run 15 = .ok (.aload_n 0, 1) := by decide +kernel
theorem e_X4_run_1 : decode cX4_run 16 = .ok (.iconst 0, 1) ∧ decode cX4_run 17 = .ok (.putfield 22, 3) ∧ decode cX4_run 20 = .ok (.aload_n 0, 1) ∧ decode cX4_run 21 = .ok (.iconst 0, 1) ∧ decode cX4_run 22 = .ok (.putfield 25, 3) ∧ decode cX4_run 25 = .ok (.aload_n 0, 1) ∧ decode cX4_run 26 = .ok (.iconst 0, 1) ∧ decode cX4_run 27 = .ok (.putfield 28, 3) ∧ decode cX4_run 30 = .ok (.aload_n 0, 1) ∧ decode cX4_run 31 = .ok (.iconst 0, 1) := by decide +kernel
theorem e_X4_run_2 : decode cX4_run 32 = .ok (.putfield 31, 3) ∧ decode cX4_run 35 = .ok (.aload_n 0, 1) ∧ decode cX4_run 36 = .ok (.iload 4, 2) ∧ decode cX4_run 38 = .ok (.putfield 34, 3) ∧ decode cX4_run 41 = .ok (.iconst 0, 1) ∧ decode cX4_run 42 = .ok (.istore 5, 2) ∧ decode cX4_run 44 = .ok (.iconst 0, 1) ∧ decode cX4_run 45 = .ok (.istore 6, 2) ∧ decode cX4_run 47 = .ok (.iload 6, 2) ∧ decode cX4_run 49 = .ok (.ldc 43, 2) := by decide +kernel
theorem e_X4_run_3 : decode cX4_run 51 = .ok (.if_icmp .ge 79, 3) ∧ decode cX4_run 54 = .ok (.iload 5, 2) ∧ decode cX4_run 56 = .ok (.aload_n 1, 1) ∧ decode cX4_run 57 = .ok (.getfield 44, 3) ∧ decode cX4_run 60 = .ok (.if_icmp .ge 70, 3) ∧ decode cX4_run 63 = .ok (.aload_n 1, 1) ∧ decode cX4_run 64 = .ok (.getfield 47, 3) ∧ decode cX4_run 67 = .ok (.iload 5, 2) ∧ decode cX4_run 69 = .ok (.iaload, 1) ∧ decode cX4_run 70 = .ok (.bipush 9, 2) := by decide +kernel
theorem e_X4_run_4 : decode cX4_run 72 = .ok (.if_icmp .ne 15, 3) ∧ decode cX4_run 75 = .ok (.aload_n 0, 1) ∧ decode cX4_run 76 = .ok (.aload_n 1, 1) ∧ decode cX4_run 77 = .ok (.iload 5, 2) ∧ decode cX4_run 79 = .ok (.invokevirtual 50, 3) ∧ decode cX4_run 82 = .ok (.istore 5, 2) ∧ decode cX4_run 84 = .ok (.goto 40, 3) ∧ decode cX4_run 87 = .ok (.aload_n 0, 1) ∧ decode cX4_run 88 = .ok (.getfield 15, 3) ∧ decode cX4_run 91 = .ok (.sipush 300, 3) := by decide +kernel
theorem e_X4_run_5 : decode cX4_run 94 = .ok (.if_icmp .lt 9, 3) ∧ decode cX4_run 97 = .ok (.aload_n 0, 1) ∧ decode cX4_run 98 = .ok (.iconst 1, 1) ∧ decode cX4_run 99 = .ok (.putfield 31, 3) ∧ decode cX4_run 102 = .ok (.return_, 1) ∧ decode cX4_run 103 = .ok (.aload_n 0, 1) ∧ decode cX4_run 104 = .ok (.dup, 1) ∧ decode cX4_run 105 = .ok (.getfield 15, 3) ∧ decode cX4_run 108 = .ok (.iconst 1, 1) ∧ decode cX4_run 109 = .ok (.iadd, 1) := by decide +kernel
theorem e_X4_run_6 : decode cX4_run 110 = .ok (.putfield 15, 3) ∧ decode cX4_run 113 = .ok (.aload_n 0, 1) ∧ decode cX4_run 114 = .ok (.aload_n 1, 1) ∧ decode cX4_run 115 = .ok (.iload 5, 2) ∧ decode cX4_run 117 = .ok (.aload_n 2, 1) ∧ decode cX4_run 118 = .ok (.aload_n 3, 1) ∧ decode cX4_run 119 = .ok (.invokevirtual 54, 3) ∧ decode cX4_run 122 = .ok (.istore 5, 2) ∧ decode cX4_run 124 = .ok (.iinc 6 1, 3) ∧ decode cX4_run 127 = .ok (.goto (-80), 3) := by decide +kernel
theorem e_X4_run_7 : decode cX4_run 130 = .ok (.return_, 1) := by decide +kernel
abbrev E_X4_run_47 (G : Kg) (x s c l5 l6 : Int) (σ : Kmem) (Q : Int → Kmem → Prop) : Prop := Ex G WX M_X4_run 6 0 0 47 [(0, vA G x), (1, vA G s), (2, vA G c), (3, vA G 58), (5, vI l5), (6, vI l6)] [] σ Q
theorem S_X4_run {G : Kg} {σ : Kmem} {Q : Int → Kmem → Prop} {x s c l4 : Int} (hx : isLf x) (hs : isS s) (hc : isC c) (h : ∀ m1 : Kmem, m1 = (kup σ x 0 1) → ∀ m3 : Kmem, m3 = (kup m1 x 1 0) → ∀ m5 : Kmem, m5 = (kup m3 x 2 0) → ∀ m7 : Kmem, m7 = (kup m5 x 3 0) → ∀ m9 : Kmem, m9 = (kup m7 x 4 0) → ∀ m11 : Kmem, m11 = (kup m9 x 5 0) → ∀ m13 : Kmem, m13 = (kup m11 x 6 0) → ∀ m15 : Kmem, m15 = (kup m13 x 7 l4) → E_X4_run_47 G x s c 0 0 m15 Q) : Run G WX M_X4_run 6 0 0 [vA G x, vA G s, vA G c, vA G 58, vI l4] σ Q := by
  refine Run.of (by decide +kernel) (by show (5 : Nat) ≤ 7; decide) ?_
  show Ex G WX M_X4_run 6 0 0 0 [(0, vA G x), (1, vA G s), (2, vA G c), (3, vA G 58), (4, vI l4)] [] σ Q
  refine R_aload_n e_X4_run_0.1 0 rfl ?_
  refine R_iconst e_X4_run_0.2.1 ?_
  refine R_putZ 4 0 0 WX_ok e_X4_run_0.2.2.1 f_X4_9 (kL_self hx) rfl rfl rfl (Or.inr rfl) ?_
  obtain ⟨m1, e2⟩ : ∃ z : Kmem, z = (kup σ x 0 1) := ⟨_, rfl⟩
  rw [← e2]
  replace h := h m1 e2
  refine R_aload_n e_X4_run_0.2.2.2.1 0 rfl ?_
  refine R_iconst e_X4_run_0.2.2.2.2.1 ?_
  refine R_putI 4 1 1 WX_ok e_X4_run_0.2.2.2.2.2.1 f_X4_15 (kL_self hx) rfl rfl rfl ?_
  obtain ⟨m3, e4⟩ : ∃ z : Kmem, z = (kup m1 x 1 0) := ⟨_, rfl⟩
  rw [← e4]
  replace h := h m3 e4
  refine R_aload_n e_X4_run_0.2.2.2.2.2.2.1 0 rfl ?_
  refine R_iconst e_X4_run_0.2.2.2.2.2.2.2.1 ?_
  refine R_putI 4 2 2 WX_ok e_X4_run_0.2.2.2.2.2.2.2.2.1 f_X4_19 (kL_self hx) rfl rfl rfl ?_
  obtain ⟨m5, e6⟩ : ∃ z : Kmem, z = (kup m3 x 2 0) := ⟨_, rfl⟩
  rw [← e6]
  replace h := h m5 e6
  refine R_aload_n e_X4_run_0.2.2.2.2.2.2.2.2.2 0 rfl ?_
  refine R_iconst e_X4_run_1.1 ?_
  refine R_putI 4 3 3 WX_ok e_X4_run_1.2.1 f_X4_22 (kL_self hx) rfl rfl rfl ?_
  obtain ⟨m7, e8⟩ : ∃ z : Kmem, z = (kup m5 x 3 0) := ⟨_, rfl⟩
  rw [← e8]
  replace h := h m7 e8
  refine R_aload_n e_X4_run_1.2.2.1 0 rfl ?_
  refine R_iconst e_X4_run_1.2.2.2.1 ?_
  refine R_putI 4 4 4 WX_ok e_X4_run_1.2.2.2.2.1 f_X4_25 (kL_self hx) rfl rfl rfl ?_
  obtain ⟨m9, e10⟩ : ∃ z : Kmem, z = (kup m7 x 4 0) := ⟨_, rfl⟩
  rw [← e10]
  replace h := h m9 e10
  refine R_aload_n e_X4_run_1.2.2.2.2.2.1 0 rfl ?_
  refine R_iconst e_X4_run_1.2.2.2.2.2.2.1 ?_
  refine R_putI 4 5 5 WX_ok e_X4_run_1.2.2.2.2.2.2.2.1 f_X4_28 (kL_self hx) rfl rfl rfl ?_
  obtain ⟨m11, e12⟩ : ∃ z : Kmem, z = (kup m9 x 5 0) := ⟨_, rfl⟩
  rw [← e12]
  replace h := h m11 e12
  refine R_aload_n e_X4_run_1.2.2.2.2.2.2.2.2.1 0 rfl ?_
  refine R_iconst e_X4_run_1.2.2.2.2.2.2.2.2.2 ?_
  refine R_putZ 4 6 6 WX_ok e_X4_run_2.1 f_X4_31 (kL_self hx) rfl rfl rfl (Or.inl rfl) ?_
  obtain ⟨m13, e14⟩ : ∃ z : Kmem, z = (kup m11 x 6 0) := ⟨_, rfl⟩
  rw [← e14]
  replace h := h m13 e14
  refine R_aload_n e_X4_run_2.2.1 0 rfl ?_
  refine R_iload e_X4_run_2.2.2.1 4 rfl ?_
  refine R_putI 4 7 7 WX_ok e_X4_run_2.2.2.2.1 f_X4_34 (kL_self hx) rfl rfl rfl ?_
  obtain ⟨m15, e16⟩ : ∃ z : Kmem, z = (kup m13 x 7 l4) := ⟨_, rfl⟩
  rw [← e16]
  replace h := h m15 e16
  refine R_iconst e_X4_run_2.2.2.2.2.1 ?_
  refine R_istore (ls2 := [(5, vI 0), (0, vA G x), (1, vA G s), (2, vA G c), (3, vA G 58), (4, vI l4)]) e_X4_run_2.2.2.2.2.2.1 (by decide) rfl ?_
  refine R_iconst e_X4_run_2.2.2.2.2.2.2.1 ?_
  refine R_istore (ls2 := [(6, vI 0), (5, vI 0), (0, vA G x), (1, vA G s), (2, vA G c), (3, vA G 58), (4, vI l4)]) e_X4_run_2.2.2.2.2.2.2.2.1 (by decide) rfl ?_
  refine R_ls (ls2 := [(0, vA G x), (1, vA G s), (2, vA G c), (3, vA G 58), (5, vI 0), (6, vI 0)]) [2, 3, 4, 5, 1, 0] rfl ?_
  exact h
theorem S_X4_run_47 {G : Kg} {σ : Kmem} {Q : Int → Kmem → Prop} {x s c l4 l5 l6 : Int} (hx : isLf x) (hs : isS s) (hc : isC c) (h : (rI l6) ∧ ((1000000 ≤ l6 → Q 0 σ) ∧ (l6 < 1000000 → (rI l5) ∧ (rI (σ s 2)) ∧ ((σ s 2 ≤ l5 → Q 0 σ) ∧ (l5 < σ s 2 → (0 ≤ l5 ∧ l5 < 60) ∧ (rI (σ (s + 1) l5)) ∧ ((σ (s + 1) l5 ≠ 9 → (rI (σ x 1)) ∧ ((σ x 1 < 300 → ∀ m23 : Kmem, m23 = (kup σ x 1 ((σ x 1) + 1)) → Run G WX M_X4_behindStep 5 0 0 [vA G x, vA G s, vI l5, vA G c, vA G 58] m23 (fun r25 s26 => E_X4_run_47 G x s c r25 (l6 + 1) s26 Q)) ∧ (300 ≤ σ x 1 → ∀ m27 : Kmem, m27 = (kup σ x 6 1) → Q 0 m27))) ∧ (σ (s + 1) l5 = 9 → Run G WX M_X4_behindEnd 0 0 0 [vA G x, vA G s, vI l5] σ (fun r29 s30 => E_X4_run_47 G x s c r29 (l6 + 1) s30 Q)))))))) : E_X4_run_47 G x s c l5 l6 σ Q := by
  refine R_iload e_X4_run_2.2.2.2.2.2.2.2.2.1 5 rfl ?_
  refine R_ldc (1000000) k_X4_43 e_X4_run_2.2.2.2.2.2.2.2.2.2 ?_
  obtain ⟨q17, h⟩ := h
  refine R_icmp_ge 130 e_X4_run_3.1 (by decide) q17 (by decide) (fun q => ?_) (fun q => ?_)
  · replace h := h.1 q
    exact R_return e_X4_run_7 rfl h
  · replace h := h.2 q
    refine R_iload e_X4_run_3.2.1 4 rfl ?_
    refine R_aload_n e_X4_run_3.2.2.1 1 rfl ?_
    refine R_getI 7 2 2 e_X4_run_3.2.2.2.1 f_X4_44 (kS_self hs) (fun _ _ => rfl) rfl ?_
    obtain ⟨q18, h⟩ := h
    obtain ⟨q19, h⟩ := h
    refine R_icmp_ge 130 e_X4_run_3.2.2.2.2.1 (by decide) q18 q19 (fun q => ?_) (fun q => ?_)
    · replace h := h.1 q
      exact R_return e_X4_run_7 rfl h
    · replace h := h.2 q
      refine R_aload_n e_X4_run_3.2.2.2.2.2.1 1 rfl ?_
      refine R_getA 7 3 (s + 1) e_X4_run_3.2.2.2.2.2.2.1 f_X4_47 (kS_self hs) (fun _ _ => rfl) (kS_r3 hs) (kS_n1 hs) ?_
      refine R_iload e_X4_run_3.2.2.2.2.2.2.2.1 4 rfl ?_
      obtain ⟨q20, h⟩ := h
      refine R_iald 60 e_X4_run_3.2.2.2.2.2.2.2.2.1 (kS_kinds hs) q20 ?_
      refine R_bipush e_X4_run_3.2.2.2.2.2.2.2.2.2 (by decide) ?_
      obtain ⟨q21, h⟩ := h
      refine R_icmp_ne 87 e_X4_run_4.1 (by decide) q21 (by decide) (fun q => ?_) (fun q => ?_)
      · replace h := h.1 q
        refine R_aload_n e_X4_run_4.2.2.2.2.2.2.2.1 0 rfl ?_
        refine R_getI 4 1 1 e_X4_run_4.2.2.2.2.2.2.2.2.1 f_X4_15 (kL_self hx) (fun _ _ => rfl) rfl ?_
        refine R_sipush e_X4_run_4.2.2.2.2.2.2.2.2.2 (by decide) ?_
        obtain ⟨q22, h⟩ := h
        refine R_icmp_lt 103 e_X4_run_5.1 (by decide) q22 (by decide) (fun q => ?_) (fun q => ?_)
        · replace h := h.1 q
          refine R_aload_n e_X4_run_5.2.2.2.2.2.1 0 rfl ?_
          refine R_dup e_X4_run_5.2.2.2.2.2.2.1 rfl ?_
          refine R_getI 4 1 1 e_X4_run_5.2.2.2.2.2.2.2.1 f_X4_15 (kL_self hx) (fun _ _ => rfl) rfl ?_
          refine R_iconst e_X4_run_5.2.2.2.2.2.2.2.2.1 ?_
          refine R_iadd e_X4_run_5.2.2.2.2.2.2.2.2.2 ?_
          refine R_putI 4 1 1 WX_ok e_X4_run_6.1 f_X4_15 (kL_self hx) rfl rfl rfl ?_
          obtain ⟨m23, e24⟩ : ∃ z : Kmem, z = (kup σ x 1 ((σ x 1) + 1)) := ⟨_, rfl⟩
          rw [← e24]
          replace h := h m23 e24
          refine R_aload_n e_X4_run_6.2.1 0 rfl ?_
          refine R_aload_n e_X4_run_6.2.2.1 1 rfl ?_
          refine R_iload e_X4_run_6.2.2.2.1 4 rfl ?_
          refine R_aload_n e_X4_run_6.2.2.2.2.1 2 rfl ?_
          refine R_aload_n e_X4_run_6.2.2.2.2.2.1 3 rfl ?_
          refine R_callV (mc := 0) (ms := 0) (mc' := 0) (ms' := 0) (M' := M_X4_behindStep) (d' := 5) (as := [vA G s, vI l5, vA G c, vA G 58]) (st := []) 4 4 e_X4_run_6.2.2.2.2.2.2.1 (kCVof m_X4_behindStep l_X4_54) rfl (by decide) (kL_self hx) (by decide) (by decide) rfl rfl (by show (0 : Nat) ≤ 8; decide) ?_
          refine Run.mono h (fun r25 s26 h => ?_)
          refine R_eqs (st2 := [vI r25]) rfl rfl ?_
          refine R_istore (ls2 := [(5, vI r25), (0, vA G x), (1, vA G s), (2, vA G c), (3, vA G 58), (6, vI l6)]) e_X4_run_6.2.2.2.2.2.2.2.1 (by decide) rfl ?_
          refine R_iinc (ls2 := [(6, vI (l6 + 1)), (5, vI r25), (0, vA G x), (1, vA G s), (2, vA G c), (3, vA G 58)]) e_X4_run_6.2.2.2.2.2.2.2.2.1 5 rfl (by decide) rfl ?_
          refine R_goto 47 e_X4_run_6.2.2.2.2.2.2.2.2.2 (by decide) ?_
          refine R_ls (ls2 := [(0, vA G x), (1, vA G s), (2, vA G c), (3, vA G 58), (5, vI r25), (6, vI (l6 + 1))]) [2, 3, 4, 5, 1, 0] rfl ?_
          exact h
        · replace h := h.2 q
          refine R_aload_n e_X4_run_5.2.1 0 rfl ?_
          refine R_iconst e_X4_run_5.2.2.1 ?_
          refine R_putZ 4 6 6 WX_ok e_X4_run_5.2.2.2.1 f_X4_31 (kL_self hx) rfl rfl rfl (Or.inr rfl) ?_
          obtain ⟨m27, e28⟩ : ∃ z : Kmem, z = (kup σ x 6 1) := ⟨_, rfl⟩
          rw [← e28]
          replace h := h m27 e28
          exact R_return e_X4_run_5.2.2.2.2.1 rfl h
      · replace h := h.2 q
        refine R_aload_n e_X4_run_4.2.1 0 rfl ?_
        refine R_aload_n e_X4_run_4.2.2.1 1 rfl ?_
        refine R_iload e_X4_run_4.2.2.2.1 4 rfl ?_
        refine R_callV (mc := 0) (ms := 0) (mc' := 0) (ms' := 0) (M' := M_X4_behindEnd) (d' := 0) (as := [vA G s, vI l5]) (st := []) 4 2 e_X4_run_4.2.2.2.2.1 (kCVof m_X4_behindEnd l_X4_50) rfl (by decide) (kL_self hx) (by decide) (by decide) rfl rfl (by show (0 : Nat) ≤ 8; decide) ?_
        refine Run.mono h (fun r29 s30 h => ?_)
        refine R_eqs (st2 := [vI r29]) rfl rfl ?_
        refine R_istore (ls2 := [(5, vI r29), (0, vA G x), (1, vA G s), (2, vA G c), (3, vA G 58), (6, vI l6)]) e_X4_run_4.2.2.2.2.2.1 (by decide) rfl ?_
        refine R_goto 124 e_X4_run_4.2.2.2.2.2.2.1 (by decide) ?_
        refine R_iinc (ls2 := [(6, vI (l6 + 1)), (5, vI r29), (0, vA G x), (1, vA G s), (2, vA G c), (3, vA G 58)]) e_X4_run_6.2.2.2.2.2.2.2.2.1 5 rfl (by decide) rfl ?_
        refine R_goto 47 e_X4_run_6.2.2.2.2.2.2.2.2.2 (by decide) ?_
        refine R_ls (ls2 := [(0, vA G x), (1, vA G s), (2, vA G c), (3, vA G 58), (5, vI r29), (6, vI (l6 + 1))]) [2, 3, 4, 5, 1, 0] rfl ?_
        exact h
/-! KiteLand$Seasons.clear()V -/
theorem e_X7_clear_0 : decode cX7_clear 0 = .ok (.aload_n 0, 1) ∧ decode cX7_clear 1 = .ok (.iconst 0, 1) ∧ decode cX7_clear 2 = .ok (.putfield 9, 3) ∧ decode cX7_clear 5 = .ok (.aload_n 0, 1) ∧ decode cX7_clear 6 = .ok (.iconst 0, 1) ∧ decode cX7_clear 7 = .ok (.putfield 15, 3) ∧ decode cX7_clear 10 = .ok (.aload_n 0, 1) ∧ decode cX7_clear 11 = .ok (.iconst 0, 1) ∧ decode cX7_clear 12 = .ok (.putfield 19, 3) ∧ decode cX7_clear 15 = .ok (.aload_n 0, 1) := by decide +kernel
theorem e_X7_clear_1 : decode cX7_clear 16 = .ok (.iconst 0, 1) ∧ decode cX7_clear 17 = .ok (.putfield 41, 3) ∧ decode cX7_clear 20 = .ok (.return_, 1) := by decide +kernel
theorem S_X7_clear {G : Kg} {σ : Kmem} {Q : Int → Kmem → Prop} {s : Int} (hs : isS s) (h : ∀ m1 : Kmem, m1 = (kup σ s 0 0) → ∀ m3 : Kmem, m3 = (kup m1 s 1 0) → ∀ m5 : Kmem, m5 = (kup m3 s 2 0) → ∀ m7 : Kmem, m7 = (kup m5 s 9 0) → Q 0 m7) : Run G WX M_X7_clear 0 0 0 [vA G s] σ Q := by
  refine Run.of (by decide +kernel) (by show (1 : Nat) ≤ 1; decide) ?_
  show Ex G WX M_X7_clear 0 0 0 0 [(0, vA G s)] [] σ Q
  refine R_aload_n e_X7_clear_0.1 0 rfl ?_
  refine R_iconst e_X7_clear_0.2.1 ?_
  refine R_putZ 7 0 0 WX_ok e_X7_clear_0.2.2.1 f_X7_9 (kS_self hs) rfl rfl rfl (Or.inl rfl) ?_
  obtain ⟨m1, e2⟩ : ∃ z : Kmem, z = (kup σ s 0 0) := ⟨_, rfl⟩
  rw [← e2]
  replace h := h m1 e2
  refine R_aload_n e_X7_clear_0.2.2.2.1 0 rfl ?_
  refine R_iconst e_X7_clear_0.2.2.2.2.1 ?_
  refine R_putI 7 1 1 WX_ok e_X7_clear_0.2.2.2.2.2.1 f_X7_15 (kS_self hs) rfl rfl rfl ?_
  obtain ⟨m3, e4⟩ : ∃ z : Kmem, z = (kup m1 s 1 0) := ⟨_, rfl⟩
  rw [← e4]
  replace h := h m3 e4
  refine R_aload_n e_X7_clear_0.2.2.2.2.2.2.1 0 rfl ?_
  refine R_iconst e_X7_clear_0.2.2.2.2.2.2.2.1 ?_
  refine R_putI 7 2 2 WX_ok e_X7_clear_0.2.2.2.2.2.2.2.2.1 f_X7_19 (kS_self hs) rfl rfl rfl ?_
  obtain ⟨m5, e6⟩ : ∃ z : Kmem, z = (kup m3 s 2 0) := ⟨_, rfl⟩
  rw [← e6]
  replace h := h m5 e6
  refine R_aload_n e_X7_clear_0.2.2.2.2.2.2.2.2.2 0 rfl ?_
  refine R_iconst e_X7_clear_1.1 ?_
  refine R_putI 7 9 9 WX_ok e_X7_clear_1.2.1 f_X7_41 (kS_self hs) rfl rfl rfl ?_
  obtain ⟨m7, e8⟩ : ∃ z : Kmem, z = (kup m5 s 9 0) := ⟨_, rfl⟩
  rw [← e8]
  replace h := h m7 e8
  exact R_return e_X7_clear_1.2.2 rfl h
/-! KiteLand$Seasons.copy(LKiteLand$Seasons;)V -/
theorem e_X7_copy_0 : decode cX7_copy 0 = .ok (.aload_n 0, 1) ∧ decode cX7_copy 1 = .ok (.aload_n 1, 1) ∧ decode cX7_copy 2 = .ok (.getfield 9, 3) ∧ decode cX7_copy 5 = .ok (.putfield 9, 3) ∧ decode cX7_copy 8 = .ok (.aload_n 0, 1) ∧ decode cX7_copy 9 = .ok (.aload_n 1, 1) ∧ decode cX7_copy 10 = .ok (.getfield 15, 3) ∧ decode cX7_copy 13 = .ok (.putfield 15, 3) ∧ decode cX7_copy 16 = .ok (.aload_n 0, 1) ∧ decode cX7_copy 17 = .ok (.aload_n 1, 1) := by decide +kernel
theorem e_X7_copy_1 : decode cX7_copy 18 = .ok (.getfield 19, 3) ∧ decode cX7_copy 21 = .ok (.putfield 19, 3) ∧ decode cX7_copy 24 = .ok (.aload_n 1, 1) ∧ decode cX7_copy 25 = .ok (.getfield 22, 3) ∧ decode cX7_copy 28 = .ok (.iconst 0, 1) ∧ decode cX7_copy 29 = .ok (.aload_n 0, 1) ∧ decode cX7_copy 30 = .ok (.getfield 22, 3) ∧ decode cX7_copy 33 = .ok (.iconst 0, 1) ∧ decode cX7_copy 34 = .ok (.aload_n 0, 1) ∧ decode cX7_copy 35 = .ok (.getfield 19, 3) := by decide +kernel
theorem e_X7_copy_2 : decode cX7_copy 38 = .ok (.invokestatic 44, 3) ∧ decode cX7_copy 41 = .ok (.aload_n 1, 1) ∧ decode cX7_copy 42 = .ok (.getfield 26, 3) ∧ decode cX7_copy 45 = .ok (.iconst 0, 1) ∧ decode cX7_copy 46 = .ok (.aload_n 0, 1) ∧ decode cX7_copy 47 = .ok (.getfield 26, 3) ∧ decode cX7_copy 50 = .ok (.iconst 0, 1) ∧ decode cX7_copy 51 = .ok (.aload_n 0, 1) ∧ decode cX7_copy 52 = .ok (.getfield 19, 3) ∧ decode cX7_copy 55 = .ok (.invokestatic 44, 3) := by decide +kernel
theorem e_X7_copy_3 : decode cX7_copy 58 = .ok (.aload_n 1, 1) ∧ decode cX7_copy 59 = .ok (.getfield 29, 3) ∧ decode cX7_copy 62 = .ok (.iconst 0, 1) ∧ decode cX7_copy 63 = .ok (.aload_n 0, 1) ∧ decode cX7_copy 64 = .ok (.getfield 29, 3) ∧ decode cX7_copy 67 = .ok (.iconst 0, 1) ∧ decode cX7_copy 68 = .ok (.aload_n 0, 1) ∧ decode cX7_copy 69 = .ok (.getfield 19, 3) ∧ decode cX7_copy 72 = .ok (.invokestatic 44, 3) ∧ decode cX7_copy 75 = .ok (.aload_n 1, 1) := by decide +kernel
theorem e_X7_copy_4 : decode cX7_copy 76 = .ok (.getfield 32, 3) ∧ decode cX7_copy 79 = .ok (.iconst 0, 1) ∧ decode cX7_copy 80 = .ok (.aload_n 0, 1) ∧ decode cX7_copy 81 = .ok (.getfield 32, 3) ∧ decode cX7_copy 84 = .ok (.iconst 0, 1) ∧ decode cX7_copy 85 = .ok (.aload_n 0, 1) ∧ decode cX7_copy 86 = .ok (.getfield 19, 3) ∧ decode cX7_copy 89 = .ok (.invokestatic 44, 3) ∧ decode cX7_copy 92 = .ok (.aload_n 1, 1) ∧ decode cX7_copy 93 = .ok (.getfield 35, 3) := by decide +kernel
theorem e_X7_copy_5 : decode cX7_copy 96 = .ok (.iconst 0, 1) ∧ decode cX7_copy 97 = .ok (.aload_n 0, 1) ∧ decode cX7_copy 98 = .ok (.getfield 35, 3) ∧ decode cX7_copy 101 = .ok (.iconst 0, 1) ∧ decode cX7_copy 102 = .ok (.aload_n 0, 1) ∧ decode cX7_copy 103 = .ok (.getfield 19, 3) ∧ decode cX7_copy 106 = .ok (.invokestatic 44, 3) ∧ decode cX7_copy 109 = .ok (.return_, 1) := by decide +kernel
theorem S_X7_copy {G : Kg} {σ : Kmem} {Q : Int → Kmem → Prop} {s s2 : Int} (hs : isS s) (hs2 : isS s2) (h : (σ s2 0 = 0 ∨ σ s2 0 = 1) ∧ ∀ m2 : Kmem, m2 = (kup σ s 0 (σ s2 0)) → ∀ m4 : Kmem, m4 = (kup m2 s 1 (m2 s2 1)) → ∀ m6 : Kmem, m6 = (kup m4 s 2 (m4 s2 2)) → (((0 : Int) ≤ 0 ∧ (0 : Int) ≤ 0 ∧ (0 : Int) ≤ m6 s 2) ∧ (0 : Int) + m6 s 2 ≤ 60 ∧ (0 : Int) + m6 s 2 ≤ 60) ∧ ∀ m9 : Kmem, m9 = (kcpy m6 (s2 + 1) 0 (s + 1) 0 (m6 s 2)) → (((0 : Int) ≤ 0 ∧ (0 : Int) ≤ 0 ∧ (0 : Int) ≤ m9 s 2) ∧ (0 : Int) + m9 s 2 ≤ 60 ∧ (0 : Int) + m9 s 2 ≤ 60) ∧ ∀ m12 : Kmem, m12 = (kcpy m9 (s2 + 2) 0 (s + 2) 0 (m9 s 2)) → (((0 : Int) ≤ 0 ∧ (0 : Int) ≤ 0 ∧ (0 : Int) ≤ m12 s 2) ∧ (0 : Int) + m12 s 2 ≤ 60 ∧ (0 : Int) + m12 s 2 ≤ 60) ∧ ∀ m15 : Kmem, m15 = (kcpy m12 (s2 + 3) 0 (s + 3) 0 (m12 s 2)) → (((0 : Int) ≤ 0 ∧ (0 : Int) ≤ 0 ∧ (0 : Int) ≤ m15 s 2) ∧ (0 : Int) + m15 s 2 ≤ 60 ∧ (0 : Int) + m15 s 2 ≤ 60) ∧ ∀ m18 : Kmem, m18 = (kcpy m15 (s2 + 4) 0 (s + 4) 0 (m15 s 2)) → (((0 : Int) ≤ 0 ∧ (0 : Int) ≤ 0 ∧ (0 : Int) ≤ m18 s 2) ∧ (0 : Int) + m18 s 2 ≤ 60 ∧ (0 : Int) + m18 s 2 ≤ 60) ∧ ∀ m21 : Kmem, m21 = (kcpy m18 (s2 + 5) 0 (s + 5) 0 (m18 s 2)) → Q 0 m21) : Run G WX M_X7_copy 1 0 0 [vA G s, vA G s2] σ Q := by
  refine Run.of (by decide +kernel) (by show (2 : Nat) ≤ 2; decide) ?_
  show Ex G WX M_X7_copy 1 0 0 0 [(0, vA G s), (1, vA G s2)] [] σ Q
  refine R_aload_n e_X7_copy_0.1 0 rfl ?_
  refine R_aload_n e_X7_copy_0.2.1 1 rfl ?_
  refine R_getI 7 0 0 e_X7_copy_0.2.2.1 f_X7_9 (kS_self hs2) (fun _ _ => rfl) rfl ?_
  obtain ⟨q1, h⟩ := h
  refine R_putZ 7 0 0 WX_ok e_X7_copy_0.2.2.2.1 f_X7_9 (kS_self hs) rfl rfl rfl q1 ?_
  obtain ⟨m2, e3⟩ : ∃ z : Kmem, z = (kup σ s 0 (σ s2 0)) := ⟨_, rfl⟩
  rw [← e3]
  replace h := h m2 e3
  refine R_aload_n e_X7_copy_0.2.2.2.2.1 0 rfl ?_
  refine R_aload_n e_X7_copy_0.2.2.2.2.2.1 1 rfl ?_
  refine R_getI 7 1 1 e_X7_copy_0.2.2.2.2.2.2.1 f_X7_15 (kS_self hs2) (fun _ _ => rfl) rfl ?_
  refine R_putI 7 1 1 WX_ok e_X7_copy_0.2.2.2.2.2.2.2.1 f_X7_15 (kS_self hs) rfl rfl rfl ?_
  obtain ⟨m4, e5⟩ : ∃ z : Kmem, z = (kup m2 s 1 (m2 s2 1)) := ⟨_, rfl⟩
  rw [← e5]
  replace h := h m4 e5
  refine R_aload_n e_X7_copy_0.2.2.2.2.2.2.2.2.1 0 rfl ?_
  refine R_aload_n e_X7_copy_0.2.2.2.2.2.2.2.2.2 1 rfl ?_
  refine R_getI 7 2 2 e_X7_copy_1.1 f_X7_19 (kS_self hs2) (fun _ _ => rfl) rfl ?_
  refine R_putI 7 2 2 WX_ok e_X7_copy_1.2.1 f_X7_19 (kS_self hs) rfl rfl rfl ?_
  obtain ⟨m6, e7⟩ : ∃ z : Kmem, z = (kup m4 s 2 (m4 s2 2)) := ⟨_, rfl⟩
  rw [← e7]
  replace h := h m6 e7
  refine R_aload_n e_X7_copy_1.2.2.1 1 rfl ?_
  refine R_getA 7 3 (s2 + 1) e_X7_copy_1.2.2.2.1 f_X7_22 (kS_self hs2) (fun _ _ => rfl) (kS_r3 hs2) (kS_n1 hs2) ?_
  refine R_iconst e_X7_copy_1.2.2.2.2.1 ?_
  refine R_aload_n e_X7_copy_1.2.2.2.2.2.1 0 rfl ?_
  refine R_getA 7 3 (s + 1) e_X7_copy_1.2.2.2.2.2.2.1 f_X7_22 (kS_self hs) (fun _ _ => rfl) (kS_r3 hs) (kS_n1 hs) ?_
  refine R_iconst e_X7_copy_1.2.2.2.2.2.2.2.1 ?_
  refine R_aload_n e_X7_copy_1.2.2.2.2.2.2.2.2.1 0 rfl ?_
  refine R_getI 7 2 2 e_X7_copy_1.2.2.2.2.2.2.2.2.2 f_X7_19 (kS_self hs) (fun _ _ => rfl) rfl ?_
  obtain ⟨q8, h⟩ := h
  refine R_copyI 60 60 rfl WX_rd e_X7_copy_2.1 (kS_kinds hs2) (kS_kinds hs) q8 l_cp_X7_44 (by decide) (by show (0 : Nat) ≤ 8; decide) ?_
  obtain ⟨m9, e10⟩ : ∃ z : Kmem, z = (kcpy m6 (s2 + 1) 0 (s + 1) 0 (m6 s 2)) := ⟨_, rfl⟩
  rw [← e10]
  replace h := h m9 e10
  refine R_aload_n e_X7_copy_2.2.1 1 rfl ?_
  refine R_getA 7 4 (s2 + 2) e_X7_copy_2.2.2.1 f_X7_26 (kS_self hs2) (fun _ _ => rfl) (kS_r4 hs2) (kS_n2 hs2) ?_
  refine R_iconst e_X7_copy_2.2.2.2.1 ?_
  refine R_aload_n e_X7_copy_2.2.2.2.2.1 0 rfl ?_
  refine R_getA 7 4 (s + 2) e_X7_copy_2.2.2.2.2.2.1 f_X7_26 (kS_self hs) (fun _ _ => rfl) (kS_r4 hs) (kS_n2 hs) ?_
  refine R_iconst e_X7_copy_2.2.2.2.2.2.2.1 ?_
  refine R_aload_n e_X7_copy_2.2.2.2.2.2.2.2.1 0 rfl ?_
  refine R_getI 7 2 2 e_X7_copy_2.2.2.2.2.2.2.2.2.1 f_X7_19 (kS_self hs) (fun _ _ => rfl) rfl ?_
  obtain ⟨q11, h⟩ := h
  refine R_copyI 60 60 rfl WX_rd e_X7_copy_2.2.2.2.2.2.2.2.2.2 (kS_tests hs2) (kS_tests hs) q11 l_cp_X7_44 (by decide) (by show (0 : Nat) ≤ 8; decide) ?_
  obtain ⟨m12, e13⟩ : ∃ z : Kmem, z = (kcpy m9 (s2 + 2) 0 (s + 2) 0 (m9 s 2)) := ⟨_, rfl⟩
  rw [← e13]
  replace h := h m12 e13
  refine R_aload_n e_X7_copy_3.1 1 rfl ?_
  refine R_getA 7 5 (s2 + 3) e_X7_copy_3.2.1 f_X7_29 (kS_self hs2) (fun _ _ => rfl) (kS_r5 hs2) (kS_n3 hs2) ?_
  refine R_iconst e_X7_copy_3.2.2.1 ?_
  refine R_aload_n e_X7_copy_3.2.2.2.1 0 rfl ?_
  refine R_getA 7 5 (s + 3) e_X7_copy_3.2.2.2.2.1 f_X7_29 (kS_self hs) (fun _ _ => rfl) (kS_r5 hs) (kS_n3 hs) ?_
  refine R_iconst e_X7_copy_3.2.2.2.2.2.1 ?_
  refine R_aload_n e_X7_copy_3.2.2.2.2.2.2.1 0 rfl ?_
  refine R_getI 7 2 2 e_X7_copy_3.2.2.2.2.2.2.2.1 f_X7_19 (kS_self hs) (fun _ _ => rfl) rfl ?_
  obtain ⟨q14, h⟩ := h
  refine R_copyI 60 60 rfl WX_rd e_X7_copy_3.2.2.2.2.2.2.2.2.1 (kS_things hs2) (kS_things hs) q14 l_cp_X7_44 (by decide) (by show (0 : Nat) ≤ 8; decide) ?_
  obtain ⟨m15, e16⟩ : ∃ z : Kmem, z = (kcpy m12 (s2 + 3) 0 (s + 3) 0 (m12 s 2)) := ⟨_, rfl⟩
  rw [← e16]
  replace h := h m15 e16
  refine R_aload_n e_X7_copy_3.2.2.2.2.2.2.2.2.2 1 rfl ?_
  refine R_getA 7 6 (s2 + 4) e_X7_copy_4.1 f_X7_32 (kS_self hs2) (fun _ _ => rfl) (kS_r6 hs2) (kS_n4 hs2) ?_
  refine R_iconst e_X7_copy_4.2.1 ?_
  refine R_aload_n e_X7_copy_4.2.2.1 0 rfl ?_
  refine R_getA 7 6 (s + 4) e_X7_copy_4.2.2.2.1 f_X7_32 (kS_self hs) (fun _ _ => rfl) (kS_r6 hs) (kS_n4 hs) ?_
  refine R_iconst e_X7_copy_4.2.2.2.2.1 ?_
  refine R_aload_n e_X7_copy_4.2.2.2.2.2.1 0 rfl ?_
  refine R_getI 7 2 2 e_X7_copy_4.2.2.2.2.2.2.1 f_X7_19 (kS_self hs) (fun _ _ => rfl) rfl ?_
  obtain ⟨q17, h⟩ := h
  refine R_copyI 60 60 rfl WX_rd e_X7_copy_4.2.2.2.2.2.2.2.1 (kS_nums hs2) (kS_nums hs) q17 l_cp_X7_44 (by decide) (by show (0 : Nat) ≤ 8; decide) ?_
  obtain ⟨m18, e19⟩ : ∃ z : Kmem, z = (kcpy m15 (s2 + 4) 0 (s + 4) 0 (m15 s 2)) := ⟨_, rfl⟩
  rw [← e19]
  replace h := h m18 e19
  refine R_aload_n e_X7_copy_4.2.2.2.2.2.2.2.2.1 1 rfl ?_
  refine R_getA 7 7 (s2 + 5) e_X7_copy_4.2.2.2.2.2.2.2.2.2 f_X7_35 (kS_self hs2) (fun _ _ => rfl) (kS_r7 hs2) (kS_n5 hs2) ?_
  refine R_iconst e_X7_copy_5.1 ?_
  refine R_aload_n e_X7_copy_5.2.1 0 rfl ?_
  refine R_getA 7 7 (s + 5) e_X7_copy_5.2.2.1 f_X7_35 (kS_self hs) (fun _ _ => rfl) (kS_r7 hs) (kS_n5 hs) ?_
  refine R_iconst e_X7_copy_5.2.2.2.1 ?_
  refine R_aload_n e_X7_copy_5.2.2.2.2.1 0 rfl ?_
  refine R_getI 7 2 2 e_X7_copy_5.2.2.2.2.2.1 f_X7_19 (kS_self hs) (fun _ _ => rfl) rfl ?_
  obtain ⟨q20, h⟩ := h
  refine R_copyI 60 60 rfl WX_rd e_X7_copy_5.2.2.2.2.2.2.1 (kS_parts hs2) (kS_parts hs) q20 l_cp_X7_44 (by decide) (by show (0 : Nat) ≤ 8; decide) ?_
  obtain ⟨m21, e22⟩ : ∃ z : Kmem, z = (kcpy m18 (s2 + 5) 0 (s + 5) 0 (m18 s 2)) := ⟨_, rfl⟩
  rw [← e22]
  replace h := h m21 e22
  exact R_return e_X7_copy_5.2.2.2.2.2.2.2 rfl h
