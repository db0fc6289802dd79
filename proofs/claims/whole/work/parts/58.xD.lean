/-! KiteLand$Sky.look(LKiteLand$County;I)V -/
theorem e_X8_look_0 : decode cX8_look 0 = .ok (.aload_n 0, 1) ∧ decode cX8_look 1 = .ok (.aload_n 1, 1) ∧ decode cX8_look 2 = .ok (.iload_n 2, 1) ∧ decode cX8_look 3 = .ok (.aload_n 1, 1) ∧ decode cX8_look 4 = .ok (.invokevirtual 35, 3) ∧ decode cX8_look 7 = .ok (.invokevirtual 41, 3) ∧ decode cX8_look 10 = .ok (.aload_n 0, 1) ∧ decode cX8_look 11 = .ok (.invokevirtual 45, 3) ∧ decode cX8_look 14 = .ok (.return_, 1) := by decide +kernel
theorem S_X8_look {G : Kg} {σ : Kmem} {Q : Int → Kmem → Prop} {c l2 : Int} (hc : isC c) (h : Run G WX M_X0_cutSet 0 0 0 [vA G c] σ (fun r1 s2 => Run G WX M_X8_raise 1 0 0 [vA G 58, vA G c, vI l2, vI r1] s2 (fun r3 s4 => Run G WX M_X8_castShade 2 0 0 [vA G 58] s4 (fun r5 s6 => Q 0 s6)))) : Run G WX M_X8_look 3 0 0 [vA G 58, vA G c, vI l2] σ Q := by
  refine Run.of (by decide +kernel) (by show (3 : Nat) ≤ 3; decide) ?_
  show Ex G WX M_X8_look 3 0 0 0 [(0, vA G 58), (1, vA G c), (2, vI l2)] [] σ Q
  refine R_aload_n e_X8_look_0.1 0 rfl ?_
  refine R_aload_n e_X8_look_0.2.1 1 rfl ?_
  refine R_iload_n e_X8_look_0.2.2.1 2 rfl ?_
  refine R_aload_n e_X8_look_0.2.2.2.1 1 rfl ?_
  refine R_callV (mc := 0) (ms := 0) (mc' := 0) (ms' := 0) (M' := M_X0_cutSet) (d' := 0) (as := []) (st := [vI l2, vA G c, vA G 58]) 0 0 e_X8_look_0.2.2.2.2.1 (kCVof m_X0_cutSet l_X8_35) rfl (by decide) (kC_self hc) (by decide) (by decide) rfl rfl (by show (3 : Nat) ≤ 8; decide) ?_
  refine Run.mono h (fun r1 s2 h => ?_)
  refine R_eqs (st2 := [vI r1, vI l2, vA G c, vA G 58]) rfl rfl ?_
  refine R_callV (mc := 0) (ms := 0) (mc' := 0) (ms' := 0) (M' := M_X8_raise) (d' := 1) (as := [vA G c, vI l2, vI r1]) (st := []) 8 3 e_X8_look_0.2.2.2.2.2.1 (kCVof m_X8_raise l_X8_41) rfl (by decide) kx_58 (by decide) (by decide) rfl rfl (by show (0 : Nat) ≤ 8; decide) ?_
  refine Run.mono h (fun r3 s4 h => ?_)
  refine R_eqs (st2 := []) rfl rfl ?_
  refine R_aload_n e_X8_look_0.2.2.2.2.2.2.1 0 rfl ?_
  refine R_callV (mc := 0) (ms := 0) (mc' := 0) (ms' := 0) (M' := M_X8_castShade) (d' := 2) (as := []) (st := []) 8 0 e_X8_look_0.2.2.2.2.2.2.2.1 (kCVof m_X8_castShade l_X8_45) rfl (by decide) kx_58 (by decide) (by decide) rfl rfl (by show (0 : Nat) ≤ 8; decide) ?_
  refine Run.mono h (fun r5 s6 h => ?_)
  refine R_eqs (st2 := []) rfl rfl ?_
  exact R_return e_X8_look_0.2.2.2.2.2.2.2.2 rfl h
/-! KiteLand$Sky.lookPastCuts(LKiteLand$County;I)V -/
theorem e_X8_lookPastCuts_0 : decode cX8_lookPastCuts 0 = .ok (.aload_n 0, 1) ∧ decode cX8_lookPastCuts 1 = .ok (.aload_n 1, 1) ∧ decode cX8_lookPastCuts 2 = .ok (.iload_n 2, 1) ∧ decode cX8_lookPastCuts 3 = .ok (.iconst 0, 1) ∧ decode cX8_lookPastCuts 4 = .ok (.invokevirtual 41, 3) ∧ decode cX8_lookPastCuts 7 = .ok (.aload_n 0, 1) ∧ decode cX8_lookPastCuts 8 = .ok (.invokevirtual 45, 3) ∧ decode cX8_lookPastCuts 11 = .ok (.return_, 1) := by decide +kernel
theorem S_X8_lookPastCuts {G : Kg} {σ : Kmem} {Q : Int → Kmem → Prop} {c l2 : Int} (hc : isC c) (h : Run G WX M_X8_raise 1 0 0 [vA G 58, vA G c, vI l2, vI 0] σ (fun r1 s2 => Run G WX M_X8_castShade 2 0 0 [vA G 58] s2 (fun r3 s4 => Q 0 s4))) : Run G WX M_X8_lookPastCuts 3 0 0 [vA G 58, vA G c, vI l2] σ Q := by
  refine Run.of (by decide +kernel) (by show (3 : Nat) ≤ 3; decide) ?_
  show Ex G WX M_X8_lookPastCuts 3 0 0 0 [(0, vA G 58), (1, vA G c), (2, vI l2)] [] σ Q
  refine R_aload_n e_X8_lookPastCuts_0.1 0 rfl ?_
  refine R_aload_n e_X8_lookPastCuts_0.2.1 1 rfl ?_
  refine R_iload_n e_X8_lookPastCuts_0.2.2.1 2 rfl ?_
  refine R_iconst e_X8_lookPastCuts_0.2.2.2.1 ?_
  refine R_callV (mc := 0) (ms := 0) (mc' := 0) (ms' := 0) (M' := M_X8_raise) (d' := 1) (as := [vA G c, vI l2, vI 0]) (st := []) 8 3 e_X8_lookPastCuts_0.2.2.2.2.1 (kCVof m_X8_raise l_X8_41) rfl (by decide) kx_58 (by decide) (by decide) rfl rfl (by show (0 : Nat) ≤ 8; decide) ?_
  refine Run.mono h (fun r1 s2 h => ?_)
  refine R_eqs (st2 := []) rfl rfl ?_
  refine R_aload_n e_X8_lookPastCuts_0.2.2.2.2.2.1 0 rfl ?_
  refine R_callV (mc := 0) (ms := 0) (mc' := 0) (ms' := 0) (M' := M_X8_castShade) (d' := 2) (as := []) (st := []) 8 0 e_X8_lookPastCuts_0.2.2.2.2.2.2.1 (kCVof m_X8_castShade l_X8_45) rfl (by decide) kx_58 (by decide) (by decide) rfl rfl (by show (0 : Nat) ≤ 8; decide) ?_
  refine Run.mono h (fun r3 s4 h => ?_)
  refine R_eqs (st2 := []) rfl rfl ?_
  exact R_return e_X8_lookPastCuts_0.2.2.2.2.2.2.2 rfl h
