/-! KiteLand$Sky.ownerOf(II)I -/
theorem e_X8_ownerOf_0 : decode cX8_ownerOf 0 = .ok (.aload_n 0, 1) ∧ decode cX8_ownerOf 1 = .ok (.getfield 28, 3) ∧ decode cX8_ownerOf 4 = .ok (.iload_n 2, 1) ∧ decode cX8_ownerOf 5 = .ok (.bipush 9, 2) ∧ decode cX8_ownerOf 7 = .ok (.imul, 1) ∧ decode cX8_ownerOf 8 = .ok (.iload_n 1, 1) ∧ decode cX8_ownerOf 9 = .ok (.iadd, 1) ∧ decode cX8_ownerOf 10 = .ok (.iaload, 1) ∧ decode cX8_ownerOf 11 = .ok (.ireturn, 1) := by decide +kernel
theorem S_X8_ownerOf {G : Kg} {σ : Kmem} {Q : Int → Kmem → Prop} {l1 l2 : Int}  (h : (0 ≤ (l2 * 9) + l1 ∧ (l2 * 9) + l1 < 63) ∧ Q (σ 63 ((l2 * 9) + l1)) σ) : Run G WX M_X8_ownerOf 0 0 0 [vA G 58, vI l1, vI l2] σ Q := by
  refine Run.of (by decide +kernel) (by show (3 : Nat) ≤ 3; decide) ?_
  show Ex G WX M_X8_ownerOf 0 0 0 0 [(0, vA G 58), (1, vI l1), (2, vI l2)] [] σ Q
  refine R_aload_n e_X8_ownerOf_0.1 0 rfl ?_
  refine R_getA 8 6 63 e_X8_ownerOf_0.2.1 f_X8_28 kx_58 (fun _ _ => rfl) rx_58_6 (by decide) ?_
  refine R_iload_n e_X8_ownerOf_0.2.2.1 2 rfl ?_
  refine R_bipush e_X8_ownerOf_0.2.2.2.1 (by decide) ?_
  refine R_imul e_X8_ownerOf_0.2.2.2.2.1 ?_
  refine R_iload_n e_X8_ownerOf_0.2.2.2.2.2.1 1 rfl ?_
  refine R_iadd e_X8_ownerOf_0.2.2.2.2.2.2.1 ?_
  obtain ⟨q1, h⟩ := h
  refine R_iald 63 e_X8_ownerOf_0.2.2.2.2.2.2.2.1 kxa_63 q1 ?_
  exact R_ireturn e_X8_ownerOf_0.2.2.2.2.2.2.2.2 rfl h
/-! KiteLand$Sky.shadersOf(II)I -/
theorem e_X8_shadersOf_0 : decode cX8_shadersOf 0 = .ok (.aload_n 0, 1) ∧ decode cX8_shadersOf 1 = .ok (.getfield 25, 3) ∧ decode cX8_shadersOf 4 = .ok (.iload_n 2, 1) ∧ decode cX8_shadersOf 5 = .ok (.bipush 9, 2) ∧ decode cX8_shadersOf 7 = .ok (.imul, 1) ∧ decode cX8_shadersOf 8 = .ok (.iload_n 1, 1) ∧ decode cX8_shadersOf 9 = .ok (.iadd, 1) ∧ decode cX8_shadersOf 10 = .ok (.iaload, 1) ∧ decode cX8_shadersOf 11 = .ok (.ireturn, 1) := by decide +kernel
theorem S_X8_shadersOf {G : Kg} {σ : Kmem} {Q : Int → Kmem → Prop} {l1 l2 : Int}  (h : (0 ≤ (l2 * 9) + l1 ∧ (l2 * 9) + l1 < 63) ∧ Q (σ 62 ((l2 * 9) + l1)) σ) : Run G WX M_X8_shadersOf 0 0 0 [vA G 58, vI l1, vI l2] σ Q := by
  refine Run.of (by decide +kernel) (by show (3 : Nat) ≤ 3; decide) ?_
  show Ex G WX M_X8_shadersOf 0 0 0 0 [(0, vA G 58), (1, vI l1), (2, vI l2)] [] σ Q
  refine R_aload_n e_X8_shadersOf_0.1 0 rfl ?_
  refine R_getA 8 5 62 e_X8_shadersOf_0.2.1 f_X8_25 kx_58 (fun _ _ => rfl) rx_58_5 (by decide) ?_
  refine R_iload_n e_X8_shadersOf_0.2.2.1 2 rfl ?_
  refine R_bipush e_X8_shadersOf_0.2.2.2.1 (by decide) ?_
  refine R_imul e_X8_shadersOf_0.2.2.2.2.1 ?_
  refine R_iload_n e_X8_shadersOf_0.2.2.2.2.2.1 1 rfl ?_
  refine R_iadd e_X8_shadersOf_0.2.2.2.2.2.2.1 ?_
  obtain ⟨q1, h⟩ := h
  refine R_iald 63 e_X8_shadersOf_0.2.2.2.2.2.2.2.1 kxa_62 q1 ?_
  exact R_ireturn e_X8_shadersOf_0.2.2.2.2.2.2.2.2 rfl h
/-! KiteLand$County.loseCrossed(LKiteLand$Sky;)I -/
theorem e_X0_loseCrossed_0 : decode cX0_loseCrossed 0 = .ok (.aload_n 1, 1) ∧ decode cX0_loseCrossed 1 = .ok (.aload_n 0, 1) ∧ decode cX0_loseCrossed 2 = .ok (.aload_n 0, 1) ∧ decode cX0_loseCrossed 3 = .ok (.invokevirtual 141, 3) ∧ decode cX0_loseCrossed 6 = .ok (.aload_n 0, 1) ∧ decode cX0_loseCrossed 7 = .ok (.invokevirtual 145, 3) ∧ decode cX0_loseCrossed 10 = .ok (.invokevirtual 148, 3) ∧ decode cX0_loseCrossed 13 = .ok (.aload_n 1, 1) ∧ decode cX0_loseCrossed 14 = .ok (.invokevirtual 154, 3) ∧ decode cX0_loseCrossed 17 = .ok (.istore_n 2, 1) := by decide +kernel
theorem e_X0_loseCrossed_1 : decode cX0_loseCrossed 18 = .ok (.aload_n 0, 1) ∧ decode cX0_loseCrossed 19 = .ok (.aload_n 0, 1) ∧ decode cX0_loseCrossed 20 = .ok (.invokevirtual 145, 3) ∧ decode cX0_loseCrossed 23 = .ok (.iload_n 2, 1) ∧ decode cX0_loseCrossed 24 = .ok (.ior, 1) ∧ decode cX0_loseCrossed 25 = .ok (.invokevirtual 157, 3) ∧ decode cX0_loseCrossed 28 = .ok (.aload_n 1, 1) ∧ decode cX0_loseCrossed 29 = .ok (.iload_n 2, 1) ∧ decode cX0_loseCrossed 30 = .ok (.invokevirtual 161, 3) ∧ decode cX0_loseCrossed 33 = .ok (.aload_n 1, 1) := by decide +kernel
theorem e_X0_loseCrossed_2 : decode cX0_loseCrossed 34 = .ok (.invokevirtual 164, 3) ∧ decode cX0_loseCrossed 37 = .ok (.iload_n 2, 1) ∧ decode cX0_loseCrossed 38 = .ok (.ireturn, 1) := by decide +kernel
theorem S_X0_loseCrossed {G : Kg} {σ : Kmem} {Q : Int → Kmem → Prop} {c : Int} (hc : isC c) (h : (0 ≤ σ c 4 ∧ σ c 4 ≤ 2147483647) ∧ Run G WX M_X0_cutSet 0 0 0 [vA G c] σ (fun r4 s5 => Run G WX M_X8_raise 1 0 0 [vA G 58, vA G c, vI ((σ c 4) % 12), vI r4] s5 (fun r6 s7 => Run G WX M_X8_crossedSet 1 0 0 [vA G 58] s7 (fun r8 s9 => Run G WX M_X0_cutSet 0 0 0 [vA G c] s9 (fun r10 s11 => Run G WX M_X0_putCutSet 0 0 0 [vA G c, vI (kor r10 r8)] s11 (fun r12 s13 => Run G WX M_X8_castShade 2 0 0 [vA G 58] (kup s13 58 1 (kand (s13 58 1) (kxor r8 (-1)))) (fun r16 s17 => Q r8 s17))))))) : Run G WX M_X0_loseCrossed 3 0 0 [vA G c, vA G 58] σ Q := by
  refine Run.of (by decide +kernel) (by show (2 : Nat) ≤ 3; decide) ?_
  show Ex G WX M_X0_loseCrossed 3 0 0 0 [(0, vA G c), (1, vA G 58)] [] σ Q
  refine R_aload_n e_X0_loseCrossed_0.1 1 rfl ?_
  refine R_aload_n e_X0_loseCrossed_0.2.1 0 rfl ?_
  refine R_aload_n e_X0_loseCrossed_0.2.2.1 0 rfl ?_
  refine R_callV (mc := 0) (ms := 0) (mc' := 0) (ms' := 0) (M' := M_X0_hourOfDay) (d' := 0) (as := []) (st := [vA G c, vA G 58]) 0 0 e_X0_loseCrossed_0.2.2.2.1 (kCVof m_X0_hourOfDay l_X0_141) rfl (by decide) (kC_self hc) (by decide) (by decide) rfl rfl (by show (2 : Nat) ≤ 8; decide) ?_
  obtain ⟨q3, h⟩ := h
  refine S_X0_hourOfDay hc ⟨q3, ?_⟩
  refine R_eqs (st2 := [vI ((σ c 4) % 12), vA G c, vA G 58]) (σ2 := σ) rfl rfl ?_
  refine R_aload_n e_X0_loseCrossed_0.2.2.2.2.1 0 rfl ?_
  refine R_callV (mc := 0) (ms := 0) (mc' := 0) (ms' := 0) (M' := M_X0_cutSet) (d' := 0) (as := []) (st := [vI ((σ c 4) % 12), vA G c, vA G 58]) 0 0 e_X0_loseCrossed_0.2.2.2.2.2.1 (kCVof m_X0_cutSet l_X0_145) rfl (by decide) (kC_self hc) (by decide) (by decide) rfl rfl (by show (3 : Nat) ≤ 8; decide) ?_
  refine Run.mono h (fun r4 s5 h => ?_)
  refine R_eqs (st2 := [vI r4, vI ((σ c 4) % 12), vA G c, vA G 58]) rfl rfl ?_
  refine R_callV (mc := 0) (ms := 0) (mc' := 0) (ms' := 0) (M' := M_X8_raise) (d' := 1) (as := [vA G c, vI ((σ c 4) % 12), vI r4]) (st := []) 8 3 e_X0_loseCrossed_0.2.2.2.2.2.2.1 (kCVof m_X8_raise l_X0_148) rfl (by decide) kx_58 (by decide) (by decide) rfl rfl (by show (0 : Nat) ≤ 8; decide) ?_
  refine Run.mono h (fun r6 s7 h => ?_)
  refine R_eqs (st2 := []) rfl rfl ?_
  refine R_aload_n e_X0_loseCrossed_0.2.2.2.2.2.2.2.1 1 rfl ?_
  refine R_callV (mc := 0) (ms := 0) (mc' := 0) (ms' := 0) (M' := M_X8_crossedSet) (d' := 1) (as := []) (st := []) 8 0 e_X0_loseCrossed_0.2.2.2.2.2.2.2.2.1 (kCVof m_X8_crossedSet l_X0_154) rfl (by decide) kx_58 (by decide) (by decide) rfl rfl (by show (0 : Nat) ≤ 8; decide) ?_
  refine Run.mono h (fun r8 s9 h => ?_)
  refine R_eqs (st2 := [vI r8]) rfl rfl ?_
  refine R_istore_n (ls2 := [(2, vI r8), (0, vA G c), (1, vA G 58)]) e_X0_loseCrossed_0.2.2.2.2.2.2.2.2.2 (by decide) rfl ?_
  refine R_aload_n e_X0_loseCrossed_1.1 1 rfl ?_
  refine R_aload_n e_X0_loseCrossed_1.2.1 1 rfl ?_
  refine R_callV (mc := 0) (ms := 0) (mc' := 0) (ms' := 0) (M' := M_X0_cutSet) (d' := 0) (as := []) (st := [vA G c]) 0 0 e_X0_loseCrossed_1.2.2.1 (kCVof m_X0_cutSet l_X0_145) rfl (by decide) (kC_self hc) (by decide) (by decide) rfl rfl (by show (1 : Nat) ≤ 8; decide) ?_
  refine Run.mono h (fun r10 s11 h => ?_)
  refine R_eqs (st2 := [vI r10, vA G c]) rfl rfl ?_
  refine R_iload_n e_X0_loseCrossed_1.2.2.2.1 0 rfl ?_
  refine R_ior e_X0_loseCrossed_1.2.2.2.2.1 ?_
  refine R_callV (mc := 0) (ms := 0) (mc' := 0) (ms' := 0) (M' := M_X0_putCutSet) (d' := 0) (as := [vI (kor r10 r8)]) (st := []) 0 1 e_X0_loseCrossed_1.2.2.2.2.2.1 (kCVof m_X0_putCutSet l_X0_157) rfl (by decide) (kC_self hc) (by decide) (by decide) rfl rfl (by show (0 : Nat) ≤ 8; decide) ?_
  refine Run.mono h (fun r12 s13 h => ?_)
  refine R_eqs (st2 := []) rfl rfl ?_
  refine R_aload_n e_X0_loseCrossed_1.2.2.2.2.2.2.1 2 rfl ?_
  refine R_iload_n e_X0_loseCrossed_1.2.2.2.2.2.2.2.1 0 rfl ?_
  refine R_callV (mc := 0) (ms := 0) (mc' := 0) (ms' := 0) (M' := M_X8_drop) (d' := 0) (as := [vI r8]) (st := []) 8 1 e_X0_loseCrossed_1.2.2.2.2.2.2.2.2.1 (kCVof m_X8_drop l_X0_161) rfl (by decide) kx_58 (by decide) (by decide) rfl rfl (by show (0 : Nat) ≤ 8; decide) ?_
  refine S_X8_drop ?_
  refine R_eqs (st2 := []) (σ2 := (kup s13 58 1 (kand (s13 58 1) (kxor r8 (-1))))) rfl rfl ?_
  refine R_aload_n e_X0_loseCrossed_1.2.2.2.2.2.2.2.2.2 2 rfl ?_
  refine R_callV (mc := 0) (ms := 0) (mc' := 0) (ms' := 0) (M' := M_X8_castShade) (d' := 2) (as := []) (st := []) 8 0 e_X0_loseCrossed_2.1 (kCVof m_X8_castShade l_X0_164) rfl (by decide) kx_58 (by decide) (by decide) rfl rfl (by show (0 : Nat) ≤ 8; decide) ?_
  refine Run.mono h (fun r16 s17 h => ?_)
  refine R_eqs (st2 := []) rfl rfl ?_
  refine R_iload_n e_X0_loseCrossed_2.2.1 0 rfl ?_
  exact R_ireturn e_X0_loseCrossed_2.2.2 rfl h
/-! KiteLand$County.growCrops(LKiteLand$Sky;)V -/
theorem e_X0_growCrops_0 : decode cX0_growCrops 0 = .ok (.iconst 0, 1) ∧ decode cX0_growCrops 1 = .ok (.istore_n 2, 1) ∧ decode cX0_growCrops 2 = .ok (.iload_n 2, 1) ∧ decode cX0_growCrops 3 = .ok (.aload_n 0, 1) ∧ decode cX0_growCrops 4 = .ok (.getfield 30, 3) ∧ decode cX0_growCrops 7 = .ok (.if_icmp .ge 56, 3) ∧ decode cX0_growCrops 10 = .ok (.aload_n 1, 1) ∧ decode cX0_growCrops 11 = .ok (.aload_n 0, 1) ∧ decode cX0_growCrops 12 = .ok (.getfield 51, 3) ∧ decode cX0_growCrops 15 = .ok (.iload_n 2, 1) := by decide +kernel
theorem e_X0_growCrops_1 : decode cX0_growCrops 16 = .ok (.aaload, 1) ∧ decode cX0_growCrops 17 = .ok (.getfield 167, 3) ∧ decode cX0_growCrops 20 = .ok (.aload_n 0, 1) ∧ decode cX0_growCrops 21 = .ok (.getfield 51, 3) ∧ decode cX0_growCrops 24 = .ok (.iload_n 2, 1) ∧ decode cX0_growCrops 25 = .ok (.aaload, 1) ∧ decode cX0_growCrops 26 = .ok (.getfield 168, 3) ∧ decode cX0_growCrops 29 = .ok (.invokevirtual 169, 3) ∧ decode cX0_growCrops 32 = .ok (.istore_n 3, 1) ∧ decode cX0_growCrops 33 = .ok (.iload_n 3, 1) := by decide +kernel
theorem e_X0_growCrops_2 : decode cX0_growCrops 34 = .ok (.iconst (-1), 1) ∧ decode cX0_growCrops 35 = .ok (.if_icmp .eq 22, 3) ∧ decode cX0_growCrops 38 = .ok (.aload_n 0, 1) ∧ decode cX0_growCrops 39 = .ok (.getfield 51, 3) ∧ decode cX0_growCrops 42 = .ok (.iload_n 2, 1) ∧ decode cX0_growCrops 43 = .ok (.aaload, 1) ∧ decode cX0_growCrops 44 = .ok (.invokevirtual 173, 3) ∧ decode cX0_growCrops 47 = .ok (.aload_n 0, 1) ∧ decode cX0_growCrops 48 = .ok (.getfield 45, 3) ∧ decode cX0_growCrops 51 = .ok (.iload_n 3, 1) := by decide +kernel
theorem e_X0_growCrops_3 : decode cX0_growCrops 52 = .ok (.aaload, 1) ∧ decode cX0_growCrops 53 = .ok (.iconst 1, 1) ∧ decode cX0_growCrops 54 = .ok (.invokevirtual 176, 3) ∧ decode cX0_growCrops 57 = .ok (.iinc 2 1, 3) ∧ decode cX0_growCrops 60 = .ok (.goto (-58), 3) ∧ decode cX0_growCrops 63 = .ok (.return_, 1) := by decide +kernel
abbrev E_X0_growCrops_2 (G : Kg) (c l2 : Int) (σ : Kmem) (Q : Int → Kmem → Prop) : Prop := Ex G WX M_X0_growCrops 2 0 0 2 [(0, vA G c), (1, vA G 58), (2, vI l2)] [] σ Q
theorem S_X0_growCrops {G : Kg} {σ : Kmem} {Q : Int → Kmem → Prop} {c : Int} (hc : isC c) (h : E_X0_growCrops_2 G c 0 σ Q) : Run G WX M_X0_growCrops 2 0 0 [vA G c, vA G 58] σ Q := by
  refine Run.of (by decide +kernel) (by show (2 : Nat) ≤ 4; decide) ?_
  show Ex G WX M_X0_growCrops 2 0 0 0 [(0, vA G c), (1, vA G 58)] [] σ Q
  refine R_iconst e_X0_growCrops_0.1 ?_
  refine R_istore_n (ls2 := [(2, vI 0), (0, vA G c), (1, vA G 58)]) e_X0_growCrops_0.2.1 (by decide) rfl ?_
  refine R_ls (ls2 := [(0, vA G c), (1, vA G 58), (2, vI 0)]) [1, 2, 0] rfl ?_
  exact h
theorem S_X0_growCrops_2 {G : Kg} {σ : Kmem} {Q : Int → Kmem → Prop} {c l2 : Int} (hc : isC c) (h : (rI l2) ∧ (rI (σ c 6)) ∧ ((σ c 6 ≤ l2 → Q 0 σ) ∧ (l2 < σ c 6 → (0 ≤ l2 ∧ l2 < 8) ∧ (0 ≤ l2 ∧ l2 < 8) ∧ (0 ≤ ((σ (c + 12 + l2) 2) * 9) + (σ (c + 12 + l2) 1) ∧ ((σ (c + 12 + l2) 2) * 9) + (σ (c + 12 + l2) 1) < 63) ∧ (rI (σ 63 (((σ (c + 12 + l2) 2) * 9) + (σ (c + 12 + l2) 1)))) ∧ ((σ 63 (((σ (c + 12 + l2) 2) * 9) + (σ (c + 12 + l2) 1)) = -1 → E_X0_growCrops_2 G c (l2 + 1) σ Q) ∧ (σ 63 (((σ (c + 12 + l2) 2) * 9) + (σ (c + 12 + l2) 1)) ≠ -1 → (0 ≤ l2 ∧ l2 < 8) ∧ (rI (99) ∧ rI (((σ (c + 12 + l2) 4) + 1))) ∧ (0 ≤ σ 63 (((σ (c + 12 + l2) 2) * 9) + (σ (c + 12 + l2) 1)) ∧ σ 63 (((σ (c + 12 + l2) 2) * 9) + (σ (c + 12 + l2) 1)) < 6) ∧ (rI (9999) ∧ rI ((((kup σ (c + 12 + l2) 4 (min (99) (((σ (c + 12 + l2) 4) + 1)))) (c + 6 + (σ 63 (((σ (c + 12 + l2) 2) * 9) + (σ (c + 12 + l2) 1)))) 7) + 1))) ∧ E_X0_growCrops_2 G c (l2 + 1) (kup (kup σ (c + 12 + l2) 4 (min (99) (((σ (c + 12 + l2) 4) + 1)))) (c + 6 + (σ 63 (((σ (c + 12 + l2) 2) * 9) + (σ (c + 12 + l2) 1)))) 7 (min (9999) ((((kup σ (c + 12 + l2) 4 (min (99) (((σ (c + 12 + l2) 4) + 1)))) (c + 6 + (σ 63 (((σ (c + 12 + l2) 2) * 9) + (σ (c + 12 + l2) 1)))) 7) + 1)))) Q))))) : E_X0_growCrops_2 G c l2 σ Q := by
  refine R_iload_n e_X0_growCrops_0.2.2.1 2 rfl ?_
  refine R_aload_n e_X0_growCrops_0.2.2.2.1 0 rfl ?_
  refine R_getI 0 6 6 e_X0_growCrops_0.2.2.2.2.1 f_X0_30 (kC_self hc) (fun _ _ => rfl) rfl ?_
  obtain ⟨q1, h⟩ := h
  obtain ⟨q2, h⟩ := h
  refine R_icmp_ge 63 e_X0_growCrops_0.2.2.2.2.2.1 (by decide) q1 q2 (fun q => ?_) (fun q => ?_)
  · replace h := h.1 q
    exact R_return e_X0_growCrops_3.2.2.2.2.2 rfl h
  · replace h := h.2 q
    refine R_aload_n e_X0_growCrops_0.2.2.2.2.2.2.1 1 rfl ?_
    refine R_aload_n e_X0_growCrops_0.2.2.2.2.2.2.2.1 0 rfl ?_
    refine R_getA 0 11 (c + 4) e_X0_growCrops_0.2.2.2.2.2.2.2.2.1 f_X0_51 (kC_self hc) (fun _ _ => rfl) (kC_r11 hc) (kC_n4 hc) ?_
    refine R_iload_n e_X0_growCrops_0.2.2.2.2.2.2.2.2.2 2 rfl ?_
    obtain ⟨q3, h⟩ := h
    refine R_aald 28 8 (c + 12 + l2) e_X0_growCrops_1.1 (by decide) (kC_crops hc) q3 (kC_cropAt hc q3) (kC_cropN hc q3) ?_
    refine R_getI 2 1 1 e_X0_growCrops_1.2.1 f_X0_167 (kC_crop hc q3) (fun _ _ => rfl) rfl ?_
    refine R_aload_n e_X0_growCrops_1.2.2.1 0 rfl ?_
    refine R_getA 0 11 (c + 4) e_X0_growCrops_1.2.2.2.1 f_X0_51 (kC_self hc) (fun _ _ => rfl) (kC_r11 hc) (kC_n4 hc) ?_
    refine R_iload_n e_X0_growCrops_1.2.2.2.2.1 2 rfl ?_
    obtain ⟨q4, h⟩ := h
    refine R_aald 28 8 (c + 12 + l2) e_X0_growCrops_1.2.2.2.2.2.1 (by decide) (kC_crops hc) q4 (kC_cropAt hc q4) (kC_cropN hc q4) ?_
    refine R_getI 2 2 2 e_X0_growCrops_1.2.2.2.2.2.2.1 f_X0_168 (kC_crop hc q4) (fun _ _ => rfl) rfl ?_
    refine R_callV (mc := 0) (ms := 0) (mc' := 0) (ms' := 0) (M' := M_X8_ownerOf) (d' := 0) (as := [vI (σ (c + 12 + l2) 1), vI (σ (c + 12 + l2) 2)]) (st := []) 8 2 e_X0_growCrops_1.2.2.2.2.2.2.2.1 (kCVof m_X8_ownerOf l_X0_169) rfl (by decide) kx_58 (by decide) (by decide) rfl rfl (by show (0 : Nat) ≤ 8; decide) ?_
    obtain ⟨q7, h⟩ := h
    refine S_X8_ownerOf ⟨q7, ?_⟩
    refine R_eqs (st2 := [vI (σ 63 (((σ (c + 12 + l2) 2) * 9) + (σ (c + 12 + l2) 1)))]) (σ2 := σ) rfl rfl ?_
    refine R_istore_n (ls2 := [(3, vI (σ 63 (((σ (c + 12 + l2) 2) * 9) + (σ (c + 12 + l2) 1)))), (0, vA G c), (1, vA G 58), (2, vI l2)]) e_X0_growCrops_1.2.2.2.2.2.2.2.2.1 (by decide) rfl ?_
    refine R_iload_n e_X0_growCrops_1.2.2.2.2.2.2.2.2.2 0 rfl ?_
    refine R_iconst e_X0_growCrops_2.1 ?_
    obtain ⟨q8, h⟩ := h
    refine R_icmp_eq 57 e_X0_growCrops_2.2.1 (by decide) q8 (by decide) (fun q => ?_) (fun q => ?_)
    · replace h := h.1 q
      refine R_iinc (ls2 := [(2, vI (l2 + 1)), (3, vI (σ 63 (((σ (c + 12 + l2) 2) * 9) + (σ (c + 12 + l2) 1)))), (0, vA G c), (1, vA G 58)]) e_X0_growCrops_3.2.2.2.1 3 rfl (by decide) rfl ?_
      refine R_goto 2 e_X0_growCrops_3.2.2.2.2.1 (by decide) ?_
      refine R_ls (ls2 := [(0, vA G c), (1, vA G 58), (2, vI (l2 + 1))]) [2, 3, 0] rfl ?_
      exact h
    · replace h := h.2 q
      refine R_aload_n e_X0_growCrops_2.2.2.1 1 rfl ?_
      refine R_getA 0 11 (c + 4) e_X0_growCrops_2.2.2.2.1 f_X0_51 (kC_self hc) (fun _ _ => rfl) (kC_r11 hc) (kC_n4 hc) ?_
      refine R_iload_n e_X0_growCrops_2.2.2.2.2.1 3 rfl ?_
      obtain ⟨q9, h⟩ := h
      refine R_aald 28 8 (c + 12 + l2) e_X0_growCrops_2.2.2.2.2.2.1 (by decide) (kC_crops hc) q9 (kC_cropAt hc q9) (kC_cropN hc q9) ?_
      refine R_callV (mc := 0) (ms := 0) (mc' := 0) (ms' := 0) (M' := M_X2_grow) (d' := 1) (as := []) (st := []) 2 0 e_X0_growCrops_2.2.2.2.2.2.2.1 (kCVof m_X2_grow l_X0_173) rfl (by decide) (kC_crop hc q9) (by decide) (by decide) rfl rfl (by show (0 : Nat) ≤ 8; decide) ?_
      obtain ⟨q14, h⟩ := h
      refine S_X2_grow (kC_crop (σ := fun _ _ => 0) hc q9) ⟨q14, ?_⟩
      refine R_eqs (st2 := []) (σ2 := (kup σ (c + 12 + l2) 4 (min (99) (((σ (c + 12 + l2) 4) + 1))))) rfl rfl ?_
      refine R_aload_n e_X0_growCrops_2.2.2.2.2.2.2.2.1 1 rfl ?_
      refine R_getA 0 10 (c + 3) e_X0_growCrops_2.2.2.2.2.2.2.2.2.1 f_X0_45 (kC_self hc) (fun _ _ => rfl) (kC_r10 hc) (kC_n3 hc) ?_
      refine R_iload_n e_X0_growCrops_2.2.2.2.2.2.2.2.2.2 0 rfl ?_
      obtain ⟨q15, h⟩ := h
      refine R_aald 27 6 (c + 6 + (σ 63 (((σ (c + 12 + l2) 2) * 9) + (σ (c + 12 + l2) 1)))) e_X0_growCrops_3.1 (by decide) (kC_kites hc) q15 (kC_kiteAt hc q15) (kC_kiteN hc q15) ?_
      refine R_iconst e_X0_growCrops_3.2.1 ?_
      refine R_callV (mc := 0) (ms := 0) (mc' := 0) (ms' := 0) (M' := M_X3_earn) (d' := 1) (as := [vI 1]) (st := []) 3 1 e_X0_growCrops_3.2.2.1 (kCVof m_X3_earn l_X0_176) rfl (by decide) (kC_kite hc q15) (by decide) (by decide) rfl rfl (by show (0 : Nat) ≤ 8; decide) ?_
      obtain ⟨q20, h⟩ := h
      refine S_X3_earn (kC_kite (σ := fun _ _ => 0) hc q15) ⟨q20, ?_⟩
      refine R_eqs (st2 := []) (σ2 := (kup (kup σ (c + 12 + l2) 4 (min (99) (((σ (c + 12 + l2) 4) + 1)))) (c + 6 + (σ 63 (((σ (c + 12 + l2) 2) * 9) + (σ (c + 12 + l2) 1)))) 7 (min (9999) ((((kup σ (c + 12 + l2) 4 (min (99) (((σ (c + 12 + l2) 4) + 1)))) (c + 6 + (σ 63 (((σ (c + 12 + l2) 2) * 9) + (σ (c + 12 + l2) 1)))) 7) + 1))))) rfl rfl ?_
      refine R_iinc (ls2 := [(2, vI (l2 + 1)), (3, vI (σ 63 (((σ (c + 12 + l2) 2) * 9) + (σ (c + 12 + l2) 1)))), (0, vA G c), (1, vA G 58)]) e_X0_growCrops_3.2.2.2.1 3 rfl (by decide) rfl ?_
      refine R_goto 2 e_X0_growCrops_3.2.2.2.2.1 (by decide) ?_
      refine R_ls (ls2 := [(0, vA G c), (1, vA G 58), (2, vI (l2 + 1))]) [2, 3, 0] rfl ?_
      exact h
/-! KiteLand$Sky.nearestOf(LKiteLand$Tenant;)I -/
theorem e_X8_nearestOf_0 : decode cX8_nearestOf 0 = .ok (.iconst (-1), 1) ∧ decode cX8_nearestOf 1 = .ok (.istore_n 2, 1) ∧ decode cX8_nearestOf 2 = .ok (.bipush 16, 2) ∧ decode cX8_nearestOf 4 = .ok (.istore_n 3, 1) ∧ decode cX8_nearestOf 5 = .ok (.iconst 0, 1) ∧ decode cX8_nearestOf 6 = .ok (.istore 4, 2) ∧ decode cX8_nearestOf 8 = .ok (.iload 4, 2) ∧ decode cX8_nearestOf 10 = .ok (.aload_n 0, 1) ∧ decode cX8_nearestOf 11 = .ok (.getfield 31, 3) ∧ decode cX8_nearestOf 14 = .ok (.getfield 107, 3) := by decide +kernel
theorem e_X8_nearestOf_1 : decode cX8_nearestOf 17 = .ok (.if_icmp .ge 75, 3) ∧ decode cX8_nearestOf 20 = .ok (.iconst 0, 1) ∧ decode cX8_nearestOf 21 = .ok (.istore 5, 2) ∧ decode cX8_nearestOf 23 = .ok (.iload 5, 2) ∧ decode cX8_nearestOf 25 = .ok (.aload_n 0, 1) ∧ decode cX8_nearestOf 26 = .ok (.getfield 31, 3) ∧ decode cX8_nearestOf 29 = .ok (.getfield 113, 3) ∧ decode cX8_nearestOf 32 = .ok (.if_icmp .ge 54, 3) ∧ decode cX8_nearestOf 35 = .ok (.aload_n 0, 1) ∧ decode cX8_nearestOf 36 = .ok (.iload 5, 2) := by decide +kernel
theorem e_X8_nearestOf_2 : decode cX8_nearestOf 38 = .ok (.iload 4, 2) ∧ decode cX8_nearestOf 40 = .ok (.invokevirtual 128, 3) ∧ decode cX8_nearestOf 43 = .ok (.aload_n 1, 1) ∧ decode cX8_nearestOf 44 = .ok (.getfield 131, 3) ∧ decode cX8_nearestOf 47 = .ok (.if_icmp .ne 33, 3) ∧ decode cX8_nearestOf 50 = .ok (.aload_n 1, 1) ∧ decode cX8_nearestOf 51 = .ok (.iload 5, 2) ∧ decode cX8_nearestOf 53 = .ok (.iload 4, 2) ∧ decode cX8_nearestOf 55 = .ok (.invokevirtual 136, 3) ∧ decode cX8_nearestOf 58 = .ok (.iload_n 3, 1) := by decide +kernel
theorem e_X8_nearestOf_3 : decode cX8_nearestOf 59 = .ok (.if_icmp .ge 21, 3) ∧ decode cX8_nearestOf 62 = .ok (.aload_n 1, 1) ∧ decode cX8_nearestOf 63 = .ok (.iload 5, 2) ∧ decode cX8_nearestOf 65 = .ok (.iload 4, 2) ∧ decode cX8_nearestOf 67 = .ok (.invokevirtual 136, 3) ∧ decode cX8_nearestOf 70 = .ok (.istore_n 3, 1) ∧ decode cX8_nearestOf 71 = .ok (.iload 4, 2) ∧ decode cX8_nearestOf 73 = .ok (.bipush 9, 2) ∧ decode cX8_nearestOf 75 = .ok (.imul, 1) ∧ decode cX8_nearestOf 76 = .ok (.iload 5, 2) := by decide +kernel
theorem e_X8_nearestOf_4 : decode cX8_nearestOf 78 = .ok (.iadd, 1) ∧ decode cX8_nearestOf 79 = .ok (.istore_n 2, 1) ∧ decode cX8_nearestOf 80 = .ok (.iinc 5 1, 3) ∧ decode cX8_nearestOf 83 = .ok (.goto (-60), 3) ∧ decode cX8_nearestOf 86 = .ok (.iinc 4 1, 3) ∧ decode cX8_nearestOf 89 = .ok (.goto (-81), 3) ∧ decode cX8_nearestOf 92 = .ok (.iload_n 2, 1) ∧ decode cX8_nearestOf 93 = .ok (.ireturn, 1) := by decide +kernel
abbrev E_X8_nearestOf_8 (G : Kg) (a l2 l3 l4 : Int) (σ : Kmem) (Q : Int → Kmem → Prop) : Prop := Ex G WX M_X8_nearestOf 2 0 0 8 [(0, vA G 58), (1, vA G a), (2, vI l2), (3, vI l3), (4, vI l4)] [] σ Q
abbrev E_X8_nearestOf_23 (G : Kg) (a l2 l3 l4 l5 : Int) (σ : Kmem) (Q : Int → Kmem → Prop) : Prop := Ex G WX M_X8_nearestOf 2 0 0 23 [(0, vA G 58), (1, vA G a), (2, vI l2), (3, vI l3), (4, vI l4), (5, vI l5)] [] σ Q
theorem S_X8_nearestOf {G : Kg} {σ : Kmem} {Q : Int → Kmem → Prop} {a c : Int} (ha : kIsX a 9) (hc : isC c) (h : E_X8_nearestOf_8 G a (-1) 16 0 σ Q) : Run G WX M_X8_nearestOf 2 0 0 [vA G 58, vA G a] σ Q := by
  refine Run.of (by decide +kernel) (by show (2 : Nat) ≤ 6; decide) ?_
  show Ex G WX M_X8_nearestOf 2 0 0 0 [(0, vA G 58), (1, vA G a)] [] σ Q
  refine R_iconst e_X8_nearestOf_0.1 ?_
  refine R_istore_n (ls2 := [(2, vI (-1)), (0, vA G 58), (1, vA G a)]) e_X8_nearestOf_0.2.1 (by decide) rfl ?_
  refine R_bipush e_X8_nearestOf_0.2.2.1 (by decide) ?_
  refine R_istore_n (ls2 := [(3, vI 16), (2, vI (-1)), (0, vA G 58), (1, vA G a)]) e_X8_nearestOf_0.2.2.2.1 (by decide) rfl ?_
  refine R_iconst e_X8_nearestOf_0.2.2.2.2.1 ?_
  refine R_istore (ls2 := [(4, vI 0), (3, vI 16), (2, vI (-1)), (0, vA G 58), (1, vA G a)]) e_X8_nearestOf_0.2.2.2.2.2.1 (by decide) rfl ?_
  refine R_ls (ls2 := [(0, vA G 58), (1, vA G a), (2, vI (-1)), (3, vI 16), (4, vI 0)]) [3, 4, 2, 1, 0] rfl ?_
  exact h
theorem S_X8_nearestOf_8 {G : Kg} {σ : Kmem} {Q : Int → Kmem → Prop} {a c l2 l3 l4 : Int} (ha : kIsX a 9) (hc : isC c) (h : (σ 58 0 = c) ∧ (rI l4) ∧ (rI (σ c 1)) ∧ ((σ c 1 ≤ l4 → Q l2 σ) ∧ (l4 < σ c 1 → E_X8_nearestOf_23 G a l2 l3 l4 0 σ Q))) : E_X8_nearestOf_8 G a l2 l3 l4 σ Q := by
  refine R_iload e_X8_nearestOf_0.2.2.2.2.2.2.1 4 rfl ?_
  refine R_aload_n e_X8_nearestOf_0.2.2.2.2.2.2.2.1 0 rfl ?_
  obtain ⟨q1, h⟩ := h
  refine R_getA 8 0 c e_X8_nearestOf_0.2.2.2.2.2.2.2.2.1 f_X8_31 kx_58 (fun _ _ => rfl) ((sky_c _).trans q1) (isC_n hc) ?_
  refine R_getI 0 1 1 e_X8_nearestOf_0.2.2.2.2.2.2.2.2.2 f_X8_107 (kC_self hc) (fun _ _ => rfl) rfl ?_
  obtain ⟨q2, h⟩ := h
  obtain ⟨q3, h⟩ := h
  refine R_icmp_ge 92 e_X8_nearestOf_1.1 (by decide) q2 q3 (fun q => ?_) (fun q => ?_)
  · replace h := h.1 q
    refine R_iload_n e_X8_nearestOf_4.2.2.2.2.2.2.1 2 rfl ?_
    exact R_ireturn e_X8_nearestOf_4.2.2.2.2.2.2.2 rfl h
  · replace h := h.2 q
    refine R_iconst e_X8_nearestOf_1.2.1 ?_
    refine R_istore (ls2 := [(5, vI 0), (0, vA G 58), (1, vA G a), (2, vI l2), (3, vI l3), (4, vI l4)]) e_X8_nearestOf_1.2.2.1 (by decide) rfl ?_
    refine R_ls (ls2 := [(0, vA G 58), (1, vA G a), (2, vI l2), (3, vI l3), (4, vI l4), (5, vI 0)]) [1, 2, 3, 4, 5, 0] rfl ?_
    exact h
theorem S_X8_nearestOf_23 {G : Kg} {σ : Kmem} {Q : Int → Kmem → Prop} {a c l2 l3 l4 l5 : Int} (ha : kIsX a 9) (hc : isC c) (h : (σ 58 0 = c) ∧ (rI l5) ∧ (rI (σ c 0)) ∧ ((σ c 0 ≤ l5 → E_X8_nearestOf_8 G a l2 l3 (l4 + 1) σ Q) ∧ (l5 < σ c 0 → (0 ≤ (l4 * 9) + l5 ∧ (l4 * 9) + l5 < 63) ∧ (rI (σ 63 ((l4 * 9) + l5))) ∧ (rI (σ a 3)) ∧ ((σ 63 ((l4 * 9) + l5) ≠ σ a 3 → E_X8_nearestOf_23 G a l2 l3 l4 (l5 + 1) σ Q) ∧ (σ 63 ((l4 * 9) + l5) = σ a 3 → (rI ((l5 - (σ a 1))) ∧ (l5 - (σ a 1)) ≠ -2147483648) ∧ (rI ((l4 - (σ a 2))) ∧ (l4 - (σ a 2)) ≠ -2147483648) ∧ (rI ((kabs ((l5 - (σ a 1)))) + (kabs ((l4 - (σ a 2)))))) ∧ (rI l3) ∧ ((l3 ≤ (kabs ((l5 - (σ a 1)))) + (kabs ((l4 - (σ a 2)))) → E_X8_nearestOf_23 G a l2 l3 l4 (l5 + 1) σ Q) ∧ ((kabs ((l5 - (σ a 1)))) + (kabs ((l4 - (σ a 2)))) < l3 → (rI ((l5 - (σ a 1))) ∧ (l5 - (σ a 1)) ≠ -2147483648) ∧ (rI ((l4 - (σ a 2))) ∧ (l4 - (σ a 2)) ≠ -2147483648) ∧ E_X8_nearestOf_23 G a ((l4 * 9) + l5) ((kabs ((l5 - (σ a 1)))) + (kabs ((l4 - (σ a 2))))) l4 (l5 + 1) σ Q))))))) : E_X8_nearestOf_23 G a l2 l3 l4 l5 σ Q := by
  refine R_iload e_X8_nearestOf_1.2.2.2.1 5 rfl ?_
  refine R_aload_n e_X8_nearestOf_1.2.2.2.2.1 0 rfl ?_
  obtain ⟨q4, h⟩ := h
  refine R_getA 8 0 c e_X8_nearestOf_1.2.2.2.2.2.1 f_X8_31 kx_58 (fun _ _ => rfl) ((sky_c _).trans q4) (isC_n hc) ?_
  refine R_getI 0 0 0 e_X8_nearestOf_1.2.2.2.2.2.2.1 f_X8_113 (kC_self hc) (fun _ _ => rfl) rfl ?_
  obtain ⟨q5, h⟩ := h
  obtain ⟨q6, h⟩ := h
  refine R_icmp_ge 86 e_X8_nearestOf_1.2.2.2.2.2.2.2.1 (by decide) q5 q6 (fun q => ?_) (fun q => ?_)
  · replace h := h.1 q
    refine R_iinc (ls2 := [(4, vI (l4 + 1)), (0, vA G 58), (1, vA G a), (2, vI l2), (3, vI l3), (5, vI l5)]) e_X8_nearestOf_4.2.2.2.2.1 4 rfl (by decide) rfl ?_
    refine R_goto 8 e_X8_nearestOf_4.2.2.2.2.2.1 (by decide) ?_
    refine R_ls (ls2 := [(0, vA G 58), (1, vA G a), (2, vI l2), (3, vI l3), (4, vI (l4 + 1))]) [1, 2, 3, 4, 0] rfl ?_
    exact h
  · replace h := h.2 q
    refine R_aload_n e_X8_nearestOf_1.2.2.2.2.2.2.2.2.1 0 rfl ?_
    refine R_iload e_X8_nearestOf_1.2.2.2.2.2.2.2.2.2 5 rfl ?_
    refine R_iload e_X8_nearestOf_2.1 4 rfl ?_
    refine R_callV (mc := 0) (ms := 0) (mc' := 0) (ms' := 0) (M' := M_X8_ownerOf) (d' := 0) (as := [vI l5, vI l4]) (st := []) 8 2 e_X8_nearestOf_2.2.1 (kCVof m_X8_ownerOf l_X8_128) rfl (by decide) kx_58 (by decide) (by decide) rfl rfl (by show (0 : Nat) ≤ 8; decide) ?_
    obtain ⟨q9, h⟩ := h
    refine S_X8_ownerOf ⟨q9, ?_⟩
    refine R_eqs (st2 := [vI (σ 63 ((l4 * 9) + l5))]) (σ2 := σ) rfl rfl ?_
    refine R_aload_n e_X8_nearestOf_2.2.2.1 1 rfl ?_
    refine R_getI 9 3 3 e_X8_nearestOf_2.2.2.2.1 f_X8_131 (kLX ha) (fun _ _ => rfl) rfl ?_
    obtain ⟨q10, h⟩ := h
    obtain ⟨q11, h⟩ := h
    refine R_icmp_ne 80 e_X8_nearestOf_2.2.2.2.2.1 (by decide) q10 q11 (fun q => ?_) (fun q => ?_)
    · replace h := h.1 q
      refine R_iinc (ls2 := [(5, vI (l5 + 1)), (0, vA G 58), (1, vA G a), (2, vI l2), (3, vI l3), (4, vI l4)]) e_X8_nearestOf_4.2.2.1 5 rfl (by decide) rfl ?_
      refine R_goto 23 e_X8_nearestOf_4.2.2.2.1 (by decide) ?_
      refine R_ls (ls2 := [(0, vA G 58), (1, vA G a), (2, vI l2), (3, vI l3), (4, vI l4), (5, vI (l5 + 1))]) [1, 2, 3, 4, 5, 0] rfl ?_
      exact h
    · replace h := h.2 q
      refine R_aload_n e_X8_nearestOf_2.2.2.2.2.2.1 1 rfl ?_
      refine R_iload e_X8_nearestOf_2.2.2.2.2.2.2.1 5 rfl ?_
      refine R_iload e_X8_nearestOf_2.2.2.2.2.2.2.2.1 4 rfl ?_
      refine R_callV (mc := 0) (ms := 0) (mc' := 0) (ms' := 0) (M' := M_X9_stepsTo) (d' := 1) (as := [vI l5, vI l4]) (st := []) 9 2 e_X8_nearestOf_2.2.2.2.2.2.2.2.2.1 (kCVof m_X9_stepsTo l_X8_136) rfl (by decide) (kLX ha) (by decide) (by decide) rfl rfl (by show (0 : Nat) ≤ 8; decide) ?_
      obtain ⟨q16, h⟩ := h
      obtain ⟨q19, h⟩ := h
      refine S_X9_stepsTo ha ⟨q16, q19, ?_⟩
      refine R_eqs (st2 := [vI ((kabs ((l5 - (σ a 1)))) + (kabs ((l4 - (σ a 2)))))]) (σ2 := σ) rfl rfl ?_
      refine R_iload_n e_X8_nearestOf_2.2.2.2.2.2.2.2.2.2 3 rfl ?_
      obtain ⟨q20, h⟩ := h
      obtain ⟨q21, h⟩ := h
      refine R_icmp_ge 80 e_X8_nearestOf_3.1 (by decide) q20 q21 (fun q => ?_) (fun q => ?_)
      · replace h := h.1 q
        refine R_iinc (ls2 := [(5, vI (l5 + 1)), (0, vA G 58), (1, vA G a), (2, vI l2), (3, vI l3), (4, vI l4)]) e_X8_nearestOf_4.2.2.1 5 rfl (by decide) rfl ?_
        refine R_goto 23 e_X8_nearestOf_4.2.2.2.1 (by decide) ?_
        refine R_ls (ls2 := [(0, vA G 58), (1, vA G a), (2, vI l2), (3, vI l3), (4, vI l4), (5, vI (l5 + 1))]) [1, 2, 3, 4, 5, 0] rfl ?_
        exact h
      · replace h := h.2 q
        refine R_aload_n e_X8_nearestOf_3.2.1 1 rfl ?_
        refine R_iload e_X8_nearestOf_3.2.2.1 5 rfl ?_
        refine R_iload e_X8_nearestOf_3.2.2.2.1 4 rfl ?_
        refine R_callV (mc := 0) (ms := 0) (mc' := 0) (ms' := 0) (M' := M_X9_stepsTo) (d' := 1) (as := [vI l5, vI l4]) (st := []) 9 2 e_X8_nearestOf_3.2.2.2.2.1 (kCVof m_X9_stepsTo l_X8_136) rfl (by decide) (kLX ha) (by decide) (by decide) rfl rfl (by show (0 : Nat) ≤ 8; decide) ?_
        obtain ⟨q26, h⟩ := h
        obtain ⟨q29, h⟩ := h
        refine S_X9_stepsTo ha ⟨q26, q29, ?_⟩
        refine R_eqs (st2 := [vI ((kabs ((l5 - (σ a 1)))) + (kabs ((l4 - (σ a 2)))))]) (σ2 := σ) rfl rfl ?_
        refine R_istore_n (ls2 := [(3, vI ((kabs ((l5 - (σ a 1)))) + (kabs ((l4 - (σ a 2)))))), (0, vA G 58), (1, vA G a), (2, vI l2), (4, vI l4), (5, vI l5)]) e_X8_nearestOf_3.2.2.2.2.2.1 (by decide) rfl ?_
        refine R_iload e_X8_nearestOf_3.2.2.2.2.2.2.1 4 rfl ?_
        refine R_bipush e_X8_nearestOf_3.2.2.2.2.2.2.2.1 (by decide) ?_
        refine R_imul e_X8_nearestOf_3.2.2.2.2.2.2.2.2.1 ?_
        refine R_iload e_X8_nearestOf_3.2.2.2.2.2.2.2.2.2 5 rfl ?_
        refine R_iadd e_X8_nearestOf_4.1 ?_
        refine R_istore_n (ls2 := [(2, vI ((l4 * 9) + l5)), (3, vI ((kabs ((l5 - (σ a 1)))) + (kabs ((l4 - (σ a 2)))))), (0, vA G 58), (1, vA G a), (4, vI l4), (5, vI l5)]) e_X8_nearestOf_4.2.1 (by decide) rfl ?_
        refine R_iinc (ls2 := [(5, vI (l5 + 1)), (2, vI ((l4 * 9) + l5)), (3, vI ((kabs ((l5 - (σ a 1)))) + (kabs ((l4 - (σ a 2)))))), (0, vA G 58), (1, vA G a), (4, vI l4)]) e_X8_nearestOf_4.2.2.1 5 rfl (by decide) rfl ?_
        refine R_goto 23 e_X8_nearestOf_4.2.2.2.1 (by decide) ?_
        refine R_ls (ls2 := [(0, vA G 58), (1, vA G a), (2, vI ((l4 * 9) + l5)), (3, vI ((kabs ((l5 - (σ a 1)))) + (kabs ((l4 - (σ a 2)))))), (4, vI l4), (5, vI (l5 + 1))]) [3, 4, 1, 2, 5, 0] rfl ?_
        exact h
/-! KiteLand$County.follow(LKiteLand$Tenant;LKiteLand$Sky;)V -/
theorem e_X0_follow_0 : decode cX0_follow 0 = .ok (.aload_n 2, 1) ∧ decode cX0_follow 1 = .ok (.aload_n 1, 1) ∧ decode cX0_follow 2 = .ok (.getfield 179, 3) ∧ decode cX0_follow 5 = .ok (.aload_n 1, 1) ∧ decode cX0_follow 6 = .ok (.getfield 180, 3) ∧ decode cX0_follow 9 = .ok (.invokevirtual 169, 3) ∧ decode cX0_follow 12 = .ok (.aload_n 1, 1) ∧ decode cX0_follow 13 = .ok (.getfield 181, 3) ∧ decode cX0_follow 16 = .ok (.if_icmp .ne 27, 3) ∧ decode cX0_follow 19 = .ok (.aload_n 1, 1) := by decide +kernel
theorem e_X0_follow_1 : decode cX0_follow 20 = .ok (.dup, 1) ∧ decode cX0_follow 21 = .ok (.getfield 184, 3) ∧ decode cX0_follow 24 = .ok (.iconst 1, 1) ∧ decode cX0_follow 25 = .ok (.iadd, 1) ∧ decode cX0_follow 26 = .ok (.putfield 184, 3) ∧ decode cX0_follow 29 = .ok (.aload_n 0, 1) ∧ decode cX0_follow 30 = .ok (.getfield 45, 3) ∧ decode cX0_follow 33 = .ok (.aload_n 1, 1) ∧ decode cX0_follow 34 = .ok (.getfield 181, 3) ∧ decode cX0_follow 37 = .ok (.aaload, 1) := by decide +kernel
theorem e_X0_follow_2 : decode cX0_follow 38 = .ok (.iconst 1, 1) ∧ decode cX0_follow 39 = .ok (.invokevirtual 176, 3) ∧ decode cX0_follow 42 = .ok (.return_, 1) ∧ decode cX0_follow 43 = .ok (.aload_n 2, 1) ∧ decode cX0_follow 44 = .ok (.aload_n 1, 1) ∧ decode cX0_follow 45 = .ok (.invokevirtual 187, 3) ∧ decode cX0_follow 48 = .ok (.istore_n 3, 1) ∧ decode cX0_follow 49 = .ok (.iload_n 3, 1) ∧ decode cX0_follow 50 = .ok (.iconst (-1), 1) ∧ decode cX0_follow 51 = .ok (.if_icmp .ne 16, 3) := by decide +kernel
theorem e_X0_follow_3 : decode cX0_follow 54 = .ok (.aload_n 1, 1) ∧ decode cX0_follow 55 = .ok (.dup, 1) ∧ decode cX0_follow 56 = .ok (.getfield 191, 3) ∧ decode cX0_follow 59 = .ok (.iconst 1, 1) ∧ decode cX0_follow 60 = .ok (.iadd, 1) ∧ decode cX0_follow 61 = .ok (.putfield 191, 3) ∧ decode cX0_follow 64 = .ok (.goto 15, 3) ∧ decode cX0_follow 67 = .ok (.aload_n 1, 1) ∧ decode cX0_follow 68 = .ok (.iload_n 3, 1) ∧ decode cX0_follow 69 = .ok (.bipush 9, 2) := by decide +kernel
theorem e_X0_follow_4 : decode cX0_follow 71 = .ok (.irem, 1) ∧ decode cX0_follow 72 = .ok (.iload_n 3, 1) ∧ decode cX0_follow 73 = .ok (.bipush 9, 2) ∧ decode cX0_follow 75 = .ok (.idiv, 1) ∧ decode cX0_follow 76 = .ok (.invokevirtual 194, 3) ∧ decode cX0_follow 79 = .ok (.return_, 1) := by decide +kernel
theorem S_X0_follow {G : Kg} {σ : Kmem} {Q : Int → Kmem → Prop} {c a : Int} (hc : isC c) (ha : kIsX a 9) (h : (0 ≤ ((σ a 2) * 9) + (σ a 1) ∧ ((σ a 2) * 9) + (σ a 1) < 63) ∧ (rI (σ 63 (((σ a 2) * 9) + (σ a 1)))) ∧ (rI (σ a 3)) ∧ ((σ 63 (((σ a 2) * 9) + (σ a 1)) ≠ σ a 3 → Run G WX M_X8_nearestOf 2 0 0 [vA G 58, vA G a] σ (fun r6 s7 => (rI r6) ∧ ((r6 ≠ -1 → (0 ≤ r6 ∧ r6 ≤ 2147483647) ∧ (0 ≤ r6 ∧ r6 ≤ 2147483647) ∧ Run G WX M_X9_stepTowards 0 0 0 [vA G a, vI (r6 % 9), vI (r6 / 9)] s7 (fun r11 s12 => Q 0 s12)) ∧ (r6 = -1 → Q 0 (kup s7 a 5 ((s7 a 5) + 1)))))) ∧ (σ 63 (((σ a 2) * 9) + (σ a 1)) = σ a 3 → (0 ≤ (kup σ a 4 ((σ a 4) + 1)) a 3 ∧ (kup σ a 4 ((σ a 4) + 1)) a 3 < 6) ∧ (rI (9999) ∧ rI ((((kup σ a 4 ((σ a 4) + 1)) (c + 6 + ((kup σ a 4 ((σ a 4) + 1)) a 3)) 7) + 1))) ∧ Q 0 (kup (kup σ a 4 ((σ a 4) + 1)) (c + 6 + ((kup σ a 4 ((σ a 4) + 1)) a 3)) 7 (min (9999) ((((kup σ a 4 ((σ a 4) + 1)) (c + 6 + ((kup σ a 4 ((σ a 4) + 1)) a 3)) 7) + 1))))))) : Run G WX M_X0_follow 3 0 0 [vA G c, vA G a, vA G 58] σ Q := by
  refine Run.of (by decide +kernel) (by show (3 : Nat) ≤ 4; decide) ?_
  show Ex G WX M_X0_follow 3 0 0 0 [(0, vA G c), (1, vA G a), (2, vA G 58)] [] σ Q
  refine R_aload_n e_X0_follow_0.1 2 rfl ?_
  refine R_aload_n e_X0_follow_0.2.1 1 rfl ?_
  refine R_getI 9 1 1 e_X0_follow_0.2.2.1 f_X0_179 (kLX ha) (fun _ _ => rfl) rfl ?_
  refine R_aload_n e_X0_follow_0.2.2.2.1 1 rfl ?_
  refine R_getI 9 2 2 e_X0_follow_0.2.2.2.2.1 f_X0_180 (kLX ha) (fun _ _ => rfl) rfl ?_
  refine R_callV (mc := 0) (ms := 0) (mc' := 0) (ms' := 0) (M' := M_X8_ownerOf) (d' := 0) (as := [vI (σ a 1), vI (σ a 2)]) (st := []) 8 2 e_X0_follow_0.2.2.2.2.2.1 (kCVof m_X8_ownerOf l_X0_169) rfl (by decide) kx_58 (by decide) (by decide) rfl rfl (by show (0 : Nat) ≤ 8; decide) ?_
  obtain ⟨q3, h⟩ := h
  refine S_X8_ownerOf ⟨q3, ?_⟩
  refine R_eqs (st2 := [vI (σ 63 (((σ a 2) * 9) + (σ a 1)))]) (σ2 := σ) rfl rfl ?_
  refine R_aload_n e_X0_follow_0.2.2.2.2.2.2.1 1 rfl ?_
  refine R_getI 9 3 3 e_X0_follow_0.2.2.2.2.2.2.2.1 f_X0_181 (kLX ha) (fun _ _ => rfl) rfl ?_
  obtain ⟨q4, h⟩ := h
  obtain ⟨q5, h⟩ := h
  refine R_icmp_ne 43 e_X0_follow_0.2.2.2.2.2.2.2.2.1 (by decide) q4 q5 (fun q => ?_) (fun q => ?_)
  · replace h := h.1 q
    refine R_aload_n e_X0_follow_2.2.2.2.1 2 rfl ?_
    refine R_aload_n e_X0_follow_2.2.2.2.2.1 1 rfl ?_
    refine R_callV (mc := 0) (ms := 0) (mc' := 0) (ms' := 0) (M' := M_X8_nearestOf) (d' := 2) (as := [vA G a]) (st := []) 8 1 e_X0_follow_2.2.2.2.2.2.1 (kCVof m_X8_nearestOf l_X0_187) rfl (by decide) kx_58 (by decide) (by decide) rfl rfl (by show (0 : Nat) ≤ 8; decide) ?_
    refine Run.mono h (fun r6 s7 h => ?_)
    refine R_eqs (st2 := [vI r6]) rfl rfl ?_
    refine R_istore_n (ls2 := [(3, vI r6), (0, vA G c), (1, vA G a), (2, vA G 58)]) e_X0_follow_2.2.2.2.2.2.2.1 (by decide) rfl ?_
    refine R_iload_n e_X0_follow_2.2.2.2.2.2.2.2.1 0 rfl ?_
    refine R_iconst e_X0_follow_2.2.2.2.2.2.2.2.2.1 ?_
    obtain ⟨q8, h⟩ := h
    refine R_icmp_ne 67 e_X0_follow_2.2.2.2.2.2.2.2.2.2 (by decide) q8 (by decide) (fun q => ?_) (fun q => ?_)
    · replace h := h.1 q
      refine R_aload_n e_X0_follow_3.2.2.2.2.2.2.2.1 2 rfl ?_
      refine R_iload_n e_X0_follow_3.2.2.2.2.2.2.2.2.1 0 rfl ?_
      refine R_bipush e_X0_follow_3.2.2.2.2.2.2.2.2.2 (by decide) ?_
      obtain ⟨q9, h⟩ := h
      refine R_irem e_X0_follow_4.1 q9 (by decide) ?_
      refine R_iload_n e_X0_follow_4.2.1 0 rfl ?_
      refine R_bipush e_X0_follow_4.2.2.1 (by decide) ?_
      obtain ⟨q10, h⟩ := h
      refine R_idiv e_X0_follow_4.2.2.2.1 q10 (by decide) ?_
      refine R_callV (mc := 0) (ms := 0) (mc' := 0) (ms' := 0) (M' := M_X9_stepTowards) (d' := 0) (as := [vI (r6 % 9), vI (r6 / 9)]) (st := []) 9 2 e_X0_follow_4.2.2.2.2.1 (kCVof m_X9_stepTowards l_X0_194) rfl (by decide) (kLX ha) (by decide) (by decide) rfl rfl (by show (0 : Nat) ≤ 8; decide) ?_
      refine Run.mono h (fun r11 s12 h => ?_)
      refine R_eqs (st2 := []) rfl rfl ?_
      exact R_return e_X0_follow_4.2.2.2.2.2 rfl h
    · replace h := h.2 q
      refine R_aload_n e_X0_follow_3.1 2 rfl ?_
      refine R_dup e_X0_follow_3.2.1 rfl ?_
      refine R_getI 9 5 5 e_X0_follow_3.2.2.1 f_X0_191 (kLX ha) (fun _ _ => rfl) rfl ?_
      refine R_iconst e_X0_follow_3.2.2.2.1 ?_
      refine R_iadd e_X0_follow_3.2.2.2.2.1 ?_
      refine R_putI 9 5 5 WX_ok e_X0_follow_3.2.2.2.2.2.1 f_X0_191 (kLX ha) rfl rfl rfl ?_
      refine R_goto 79 e_X0_follow_3.2.2.2.2.2.2.1 (by decide) ?_
      exact R_return e_X0_follow_4.2.2.2.2.2 rfl h
  · replace h := h.2 q
    refine R_aload_n e_X0_follow_0.2.2.2.2.2.2.2.2.2 1 rfl ?_
    refine R_dup e_X0_follow_1.1 rfl ?_
    refine R_getI 9 4 4 e_X0_follow_1.2.1 f_X0_184 (kLX ha) (fun _ _ => rfl) rfl ?_
    refine R_iconst e_X0_follow_1.2.2.1 ?_
    refine R_iadd e_X0_follow_1.2.2.2.1 ?_
    refine R_putI 9 4 4 WX_ok e_X0_follow_1.2.2.2.2.1 f_X0_184 (kLX ha) rfl rfl rfl ?_
    refine R_aload_n e_X0_follow_1.2.2.2.2.2.1 0 rfl ?_
    refine R_getA 0 10 (c + 3) e_X0_follow_1.2.2.2.2.2.2.1 f_X0_45 (kC_self hc) (fun _ _ => rfl) (kC_r10 hc) (kC_n3 hc) ?_
    refine R_aload_n e_X0_follow_1.2.2.2.2.2.2.2.1 1 rfl ?_
    refine R_getI 9 3 3 e_X0_follow_1.2.2.2.2.2.2.2.2.1 f_X0_181 (kLX ha) (fun _ _ => rfl) rfl ?_
    obtain ⟨q13, h⟩ := h
    refine R_aald 27 6 (c + 6 + ((kup σ a 4 ((σ a 4) + 1)) a 3)) e_X0_follow_1.2.2.2.2.2.2.2.2.2 (by decide) (kC_kites hc) q13 (kC_kiteAt hc q13) (kC_kiteN hc q13) ?_
    refine R_iconst e_X0_follow_2.1 ?_
    refine R_callV (mc := 0) (ms := 0) (mc' := 0) (ms' := 0) (M' := M_X3_earn) (d' := 1) (as := [vI 1]) (st := []) 3 1 e_X0_follow_2.2.1 (kCVof m_X3_earn l_X0_176) rfl (by decide) (kC_kite hc q13) (by decide) (by decide) rfl rfl (by show (0 : Nat) ≤ 8; decide) ?_
    obtain ⟨q18, h⟩ := h
    refine S_X3_earn (kC_kite (σ := fun _ _ => 0) hc q13) ⟨q18, ?_⟩
    refine R_eqs (st2 := []) (σ2 := (kup (kup σ a 4 ((σ a 4) + 1)) (c + 6 + ((kup σ a 4 ((σ a 4) + 1)) a 3)) 7 (min (9999) ((((kup σ a 4 ((σ a 4) + 1)) (c + 6 + ((kup σ a 4 ((σ a 4) + 1)) a 3)) 7) + 1))))) rfl rfl ?_
    exact R_return e_X0_follow_2.2.2.1 rfl h
/-! KiteLand$County.goBy(LKiteLand$Sky;I)I -/
theorem e_X0_goBy_0 : decode cX0_goBy 0 = .ok (.iconst 0, 1) ∧ decode cX0_goBy 1 = .ok (.istore_n 3, 1) ∧ decode cX0_goBy 2 = .ok (.iconst 0, 1) ∧ decode cX0_goBy 3 = .ok (.istore 4, 2) ∧ decode cX0_goBy 5 = .ok (.iload 4, 2) ∧ decode cX0_goBy 7 = .ok (.iload_n 2, 1) ∧ decode cX0_goBy 8 = .ok (.if_icmp .ge 62, 3) ∧ decode cX0_goBy 11 = .ok (.iload_n 3, 1) ∧ decode cX0_goBy 12 = .ok (.aload_n 0, 1) ∧ decode cX0_goBy 13 = .ok (.aload_n 1, 1) := by decide +kernel
theorem e_X0_goBy_1 : decode cX0_goBy 14 = .ok (.invokevirtual 129, 3) ∧ decode cX0_goBy 17 = .ok (.ior, 1) ∧ decode cX0_goBy 18 = .ok (.istore_n 3, 1) ∧ decode cX0_goBy 19 = .ok (.aload_n 0, 1) ∧ decode cX0_goBy 20 = .ok (.aload_n 1, 1) ∧ decode cX0_goBy 21 = .ok (.invokevirtual 133, 3) ∧ decode cX0_goBy 24 = .ok (.iconst 0, 1) ∧ decode cX0_goBy 25 = .ok (.istore 5, 2) ∧ decode cX0_goBy 27 = .ok (.iload 5, 2) ∧ decode cX0_goBy 29 = .ok (.aload_n 0, 1) := by decide +kernel
theorem e_X0_goBy_2 : decode cX0_goBy 30 = .ok (.getfield 33, 3) ∧ decode cX0_goBy 33 = .ok (.if_icmp .ge 21, 3) ∧ decode cX0_goBy 36 = .ok (.aload_n 0, 1) ∧ decode cX0_goBy 37 = .ok (.aload_n 0, 1) ∧ decode cX0_goBy 38 = .ok (.getfield 57, 3) ∧ decode cX0_goBy 41 = .ok (.iload 5, 2) ∧ decode cX0_goBy 43 = .ok (.aaload, 1) ∧ decode cX0_goBy 44 = .ok (.aload_n 1, 1) ∧ decode cX0_goBy 45 = .ok (.invokevirtual 137, 3) ∧ decode cX0_goBy 48 = .ok (.iinc 5 1, 3) := by decide +kernel
theorem e_X0_goBy_3 : decode cX0_goBy 51 = .ok (.goto (-24), 3) ∧ decode cX0_goBy 54 = .ok (.aload_n 0, 1) ∧ decode cX0_goBy 55 = .ok (.dup, 1) ∧ decode cX0_goBy 56 = .ok (.getfield 24, 3) ∧ decode cX0_goBy 59 = .ok (.iconst 1, 1) ∧ decode cX0_goBy 60 = .ok (.iadd, 1) ∧ decode cX0_goBy 61 = .ok (.putfield 24, 3) ∧ decode cX0_goBy 64 = .ok (.iinc 4 1, 3) ∧ decode cX0_goBy 67 = .ok (.goto (-62), 3) ∧ decode cX0_goBy 70 = .ok (.iload_n 3, 1) := by decide +kernel
theorem e_X0_goBy_4 : decode cX0_goBy 71 = .ok (.ireturn, 1) := by decide +kernel
abbrev E_X0_goBy_5 (G : Kg) (c l2 l3 l4 : Int) (σ : Kmem) (Q : Int → Kmem → Prop) : Prop := Ex G WX M_X0_goBy 4 0 0 5 [(0, vA G c), (1, vA G 58), (2, vI l2), (3, vI l3), (4, vI l4)] [] σ Q
abbrev E_X0_goBy_27 (G : Kg) (c l2 l3 l4 l5 : Int) (σ : Kmem) (Q : Int → Kmem → Prop) : Prop := Ex G WX M_X0_goBy 4 0 0 27 [(0, vA G c), (1, vA G 58), (2, vI l2), (3, vI l3), (4, vI l4), (5, vI l5)] [] σ Q
theorem S_X0_goBy {G : Kg} {σ : Kmem} {Q : Int → Kmem → Prop} {c l2 : Int} (hc : isC c) (h : E_X0_goBy_5 G c l2 0 0 σ Q) : Run G WX M_X0_goBy 4 0 0 [vA G c, vA G 58, vI l2] σ Q := by
  refine Run.of (by decide +kernel) (by show (3 : Nat) ≤ 6; decide) ?_
  show Ex G WX M_X0_goBy 4 0 0 0 [(0, vA G c), (1, vA G 58), (2, vI l2)] [] σ Q
  refine R_iconst e_X0_goBy_0.1 ?_
  refine R_istore_n (ls2 := [(3, vI 0), (0, vA G c), (1, vA G 58), (2, vI l2)]) e_X0_goBy_0.2.1 (by decide) rfl ?_
  refine R_iconst e_X0_goBy_0.2.2.1 ?_
  refine R_istore (ls2 := [(4, vI 0), (3, vI 0), (0, vA G c), (1, vA G 58), (2, vI l2)]) e_X0_goBy_0.2.2.2.1 (by decide) rfl ?_
  refine R_ls (ls2 := [(0, vA G c), (1, vA G 58), (2, vI l2), (3, vI 0), (4, vI 0)]) [2, 3, 4, 1, 0] rfl ?_
  exact h
theorem S_X0_goBy_5 {G : Kg} {σ : Kmem} {Q : Int → Kmem → Prop} {c l2 l3 l4 : Int} (hc : isC c) (h : (rI l4) ∧ (rI l2) ∧ ((l2 ≤ l4 → Q l3 σ) ∧ (l4 < l2 → Run G WX M_X0_loseCrossed 3 0 0 [vA G c, vA G 58] σ (fun r3 s4 => Run G WX M_X0_growCrops 2 0 0 [vA G c, vA G 58] s4 (fun r5 s6 => E_X0_goBy_27 G c l2 (kor l3 r3) l4 0 s6 Q))))) : E_X0_goBy_5 G c l2 l3 l4 σ Q := by
  refine R_iload e_X0_goBy_0.2.2.2.2.1 4 rfl ?_
  refine R_iload_n e_X0_goBy_0.2.2.2.2.2.1 2 rfl ?_
  obtain ⟨q1, h⟩ := h
  obtain ⟨q2, h⟩ := h
  refine R_icmp_ge 70 e_X0_goBy_0.2.2.2.2.2.2.1 (by decide) q1 q2 (fun q => ?_) (fun q => ?_)
  · replace h := h.1 q
    refine R_iload_n e_X0_goBy_3.2.2.2.2.2.2.2.2.2 3 rfl ?_
    exact R_ireturn e_X0_goBy_4 rfl h
  · replace h := h.2 q
    refine R_iload_n e_X0_goBy_0.2.2.2.2.2.2.2.1 3 rfl ?_
    refine R_aload_n e_X0_goBy_0.2.2.2.2.2.2.2.2.1 0 rfl ?_
    refine R_aload_n e_X0_goBy_0.2.2.2.2.2.2.2.2.2 1 rfl ?_
    refine R_callV (mc := 0) (ms := 0) (mc' := 0) (ms' := 0) (M' := M_X0_loseCrossed) (d' := 3) (as := [vA G 58]) (st := [vI l3]) 0 1 e_X0_goBy_1.1 (kCVof m_X0_loseCrossed l_X0_129) rfl (by decide) (kC_self hc) (by decide) (by decide) rfl rfl (by show (1 : Nat) ≤ 8; decide) ?_
    refine Run.mono h (fun r3 s4 h => ?_)
    refine R_eqs (st2 := [vI r3, vI l3]) rfl rfl ?_
    refine R_ior e_X0_goBy_1.2.1 ?_
    refine R_istore_n (ls2 := [(3, vI (kor l3 r3)), (0, vA G c), (1, vA G 58), (2, vI l2), (4, vI l4)]) e_X0_goBy_1.2.2.1 (by decide) rfl ?_
    refine R_aload_n e_X0_goBy_1.2.2.2.1 1 rfl ?_
    refine R_aload_n e_X0_goBy_1.2.2.2.2.1 2 rfl ?_
    refine R_callV (mc := 0) (ms := 0) (mc' := 0) (ms' := 0) (M' := M_X0_growCrops) (d' := 2) (as := [vA G 58]) (st := []) 0 1 e_X0_goBy_1.2.2.2.2.2.1 (kCVof m_X0_growCrops l_X0_133) rfl (by decide) (kC_self hc) (by decide) (by decide) rfl rfl (by show (0 : Nat) ≤ 8; decide) ?_
    refine Run.mono h (fun r5 s6 h => ?_)
    refine R_eqs (st2 := []) rfl rfl ?_
    refine R_iconst e_X0_goBy_1.2.2.2.2.2.2.1 ?_
    refine R_istore (ls2 := [(5, vI 0), (3, vI (kor l3 r3)), (0, vA G c), (1, vA G 58), (2, vI l2), (4, vI l4)]) e_X0_goBy_1.2.2.2.2.2.2.2.1 (by decide) rfl ?_
    refine R_ls (ls2 := [(0, vA G c), (1, vA G 58), (2, vI l2), (3, vI (kor l3 r3)), (4, vI l4), (5, vI 0)]) [2, 3, 4, 1, 5, 0] rfl ?_
    exact h
theorem S_X0_goBy_27 {G : Kg} {σ : Kmem} {Q : Int → Kmem → Prop} {c l2 l3 l4 l5 : Int} (hc : isC c) (h : (rI l5) ∧ (rI (σ c 7)) ∧ ((σ c 7 ≤ l5 → E_X0_goBy_5 G c l2 l3 (l4 + 1) (kup σ c 4 ((σ c 4) + 1)) Q) ∧ (l5 < σ c 7 → (0 ≤ l5 ∧ l5 < 6) ∧ Run G WX M_X0_follow 3 0 0 [vA G c, vA G (c + 20 + l5), vA G 58] σ (fun r10 s11 => E_X0_goBy_27 G c l2 l3 l4 (l5 + 1) s11 Q)))) : E_X0_goBy_27 G c l2 l3 l4 l5 σ Q := by
  refine R_iload e_X0_goBy_1.2.2.2.2.2.2.2.2.1 5 rfl ?_
  refine R_aload_n e_X0_goBy_1.2.2.2.2.2.2.2.2.2 0 rfl ?_
  refine R_getI 0 7 7 e_X0_goBy_2.1 f_X0_33 (kC_self hc) (fun _ _ => rfl) rfl ?_
  obtain ⟨q7, h⟩ := h
  obtain ⟨q8, h⟩ := h
  refine R_icmp_ge 54 e_X0_goBy_2.2.1 (by decide) q7 q8 (fun q => ?_) (fun q => ?_)
  · replace h := h.1 q
    refine R_aload_n e_X0_goBy_3.2.1 0 rfl ?_
    refine R_dup e_X0_goBy_3.2.2.1 rfl ?_
    refine R_getI 0 4 4 e_X0_goBy_3.2.2.2.1 f_X0_24 (kC_self hc) (fun _ _ => rfl) rfl ?_
    refine R_iconst e_X0_goBy_3.2.2.2.2.1 ?_
    refine R_iadd e_X0_goBy_3.2.2.2.2.2.1 ?_
    refine R_putI 0 4 4 WX_ok e_X0_goBy_3.2.2.2.2.2.2.1 f_X0_24 (kC_self hc) rfl rfl rfl ?_
    refine R_iinc (ls2 := [(4, vI (l4 + 1)), (0, vA G c), (1, vA G 58), (2, vI l2), (3, vI l3), (5, vI l5)]) e_X0_goBy_3.2.2.2.2.2.2.2.1 4 rfl (by decide) rfl ?_
    refine R_goto 5 e_X0_goBy_3.2.2.2.2.2.2.2.2.1 (by decide) ?_
    refine R_ls (ls2 := [(0, vA G c), (1, vA G 58), (2, vI l2), (3, vI l3), (4, vI (l4 + 1))]) [1, 2, 3, 4, 0] rfl ?_
    exact h
  · replace h := h.2 q
    refine R_aload_n e_X0_goBy_2.2.2.1 0 rfl ?_
    refine R_aload_n e_X0_goBy_2.2.2.2.1 0 rfl ?_
    refine R_getA 0 12 (c + 5) e_X0_goBy_2.2.2.2.2.1 f_X0_57 (kC_self hc) (fun _ _ => rfl) (kC_r12 hc) (kC_n5 hc) ?_
    refine R_iload e_X0_goBy_2.2.2.2.2.2.1 5 rfl ?_
    obtain ⟨q9, h⟩ := h
    refine R_aald 29 6 (c + 20 + l5) e_X0_goBy_2.2.2.2.2.2.2.1 (by decide) (kC_tens hc) q9 (kC_tenAt hc q9) (kC_tenN hc q9) ?_
    refine R_aload_n e_X0_goBy_2.2.2.2.2.2.2.2.1 1 rfl ?_
    refine R_callV (mc := 0) (ms := 0) (mc' := 0) (ms' := 0) (M' := M_X0_follow) (d' := 3) (as := [vA G (c + 20 + l5), vA G 58]) (st := []) 0 2 e_X0_goBy_2.2.2.2.2.2.2.2.2.1 (kCVof m_X0_follow l_X0_137) rfl (by decide) (kC_self hc) (by decide) (by decide) rfl rfl (by show (0 : Nat) ≤ 8; decide) ?_
    refine Run.mono h (fun r10 s11 h => ?_)
    refine R_eqs (st2 := []) rfl rfl ?_
    refine R_iinc (ls2 := [(5, vI (l5 + 1)), (0, vA G c), (1, vA G 58), (2, vI l2), (3, vI l3), (4, vI l4)]) e_X0_goBy_2.2.2.2.2.2.2.2.2.2 5 rfl (by decide) rfl ?_
    refine R_goto 27 e_X0_goBy_3.1 (by decide) ?_
    refine R_ls (ls2 := [(0, vA G c), (1, vA G 58), (2, vI l2), (3, vI l3), (4, vI l4), (5, vI (l5 + 1))]) [1, 2, 3, 4, 5, 0] rfl ?_
    exact h
