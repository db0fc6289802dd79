/-! KiteLand.isTray(I)Z -/
theorem e_X11_isTray_0 : decode cX11_isTray 0 = .ok (.iload_n 1, 1) ∧ decode cX11_isTray 1 = .ok (.ifCond .lt 12, 3) ∧ decode cX11_isTray 4 = .ok (.iload_n 1, 1) ∧ decode cX11_isTray 5 = .ok (.iconst 4, 1) ∧ decode cX11_isTray 6 = .ok (.if_icmp .ge 7, 3) ∧ decode cX11_isTray 9 = .ok (.iconst 1, 1) ∧ decode cX11_isTray 10 = .ok (.goto 4, 3) ∧ decode cX11_isTray 13 = .ok (.iconst 0, 1) ∧ decode cX11_isTray 14 = .ok (.ireturn, 1) := by decide +kernel
theorem S_X11_isTray {G : Kg} {σ : Kmem} {Q : Int → Kmem → Prop} {l1 : Int}  (h : (rI l1) ∧ ((l1 < 0 → Q 0 σ) ∧ (0 ≤ l1 → ((4 ≤ l1 → Q 0 σ) ∧ (l1 < 4 → Q 1 σ))))) : Run G WX M_X11_isTray 0 0 0 [vA G 0, vI l1] σ Q := by
  refine Run.of (by decide +kernel) (by show (2 : Nat) ≤ 2; decide) ?_
  show Ex G WX M_X11_isTray 0 0 0 0 [(0, vA G 0), (1, vI l1)] [] σ Q
  refine R_iload_n e_X11_isTray_0.1 1 rfl ?_
  obtain ⟨q1, h⟩ := h
  refine R_if_lt 13 e_X11_isTray_0.2.1 (by decide) q1  (fun q => ?_) (fun q => ?_)
  · replace h := h.1 q
    refine R_iconst e_X11_isTray_0.2.2.2.2.2.2.2.1 ?_
    exact R_zreturn e_X11_isTray_0.2.2.2.2.2.2.2.2 rfl (Or.inl rfl) h
  · replace h := h.2 q
    refine R_iload_n e_X11_isTray_0.2.2.1 1 rfl ?_
    refine R_iconst e_X11_isTray_0.2.2.2.1 ?_
    refine R_icmp_ge 13 e_X11_isTray_0.2.2.2.2.1 (by decide) q1 (by decide) (fun q => ?_) (fun q => ?_)
    · replace h := h.1 q
      refine R_iconst e_X11_isTray_0.2.2.2.2.2.2.2.1 ?_
      exact R_zreturn e_X11_isTray_0.2.2.2.2.2.2.2.2 rfl (Or.inl rfl) h
    · replace h := h.2 q
      refine R_iconst e_X11_isTray_0.2.2.2.2.2.1 ?_
      refine R_goto 14 e_X11_isTray_0.2.2.2.2.2.2.1 (by decide) ?_
      exact R_zreturn e_X11_isTray_0.2.2.2.2.2.2.2.2 rfl (Or.inr rfl) h
/-! KiteLand.isHourOfDay(I)Z -/
theorem e_X11_isHourOfDay_0 : decode cX11_isHourOfDay 0 = .ok (.iload_n 1, 1) ∧ decode cX11_isHourOfDay 1 = .ok (.ifCond .lt 13, 3) ∧ decode cX11_isHourOfDay 4 = .ok (.iload_n 1, 1) ∧ decode cX11_isHourOfDay 5 = .ok (.bipush 12, 2) ∧ decode cX11_isHourOfDay 7 = .ok (.if_icmp .ge 7, 3) ∧ decode cX11_isHourOfDay 10 = .ok (.iconst 1, 1) ∧ decode cX11_isHourOfDay 11 = .ok (.goto 4, 3) ∧ decode cX11_isHourOfDay 14 = .ok (.iconst 0, 1) ∧ decode cX11_isHourOfDay 15 = .ok (.ireturn, 1) := by decide +kernel
theorem S_X11_isHourOfDay {G : Kg} {σ : Kmem} {Q : Int → Kmem → Prop} {l1 : Int}  (h : (rI l1) ∧ ((l1 < 0 → Q 0 σ) ∧ (0 ≤ l1 → ((12 ≤ l1 → Q 0 σ) ∧ (l1 < 12 → Q 1 σ))))) : Run G WX M_X11_isHourOfDay 0 0 0 [vA G 0, vI l1] σ Q := by
  refine Run.of (by decide +kernel) (by show (2 : Nat) ≤ 2; decide) ?_
  show Ex G WX M_X11_isHourOfDay 0 0 0 0 [(0, vA G 0), (1, vI l1)] [] σ Q
  refine R_iload_n e_X11_isHourOfDay_0.1 1 rfl ?_
  obtain ⟨q1, h⟩ := h
  refine R_if_lt 14 e_X11_isHourOfDay_0.2.1 (by decide) q1  (fun q => ?_) (fun q => ?_)
  · replace h := h.1 q
    refine R_iconst e_X11_isHourOfDay_0.2.2.2.2.2.2.2.1 ?_
    exact R_zreturn e_X11_isHourOfDay_0.2.2.2.2.2.2.2.2 rfl (Or.inl rfl) h
  · replace h := h.2 q
    refine R_iload_n e_X11_isHourOfDay_0.2.2.1 1 rfl ?_
    refine R_bipush e_X11_isHourOfDay_0.2.2.2.1 (by decide) ?_
    refine R_icmp_ge 14 e_X11_isHourOfDay_0.2.2.2.2.1 (by decide) q1 (by decide) (fun q => ?_) (fun q => ?_)
    · replace h := h.1 q
      refine R_iconst e_X11_isHourOfDay_0.2.2.2.2.2.2.2.1 ?_
      exact R_zreturn e_X11_isHourOfDay_0.2.2.2.2.2.2.2.2 rfl (Or.inl rfl) h
    · replace h := h.2 q
      refine R_iconst e_X11_isHourOfDay_0.2.2.2.2.2.1 ?_
      refine R_goto 15 e_X11_isHourOfDay_0.2.2.2.2.2.2.1 (by decide) ?_
      exact R_zreturn e_X11_isHourOfDay_0.2.2.2.2.2.2.2.2 rfl (Or.inr rfl) h
/-! KiteLand.isAhead(I)Z -/
theorem e_X11_isAhead_0 : decode cX11_isAhead 0 = .ok (.iload_n 1, 1) ∧ decode cX11_isAhead 1 = .ok (.ifCond .lt 13, 3) ∧ decode cX11_isAhead 4 = .ok (.iload_n 1, 1) ∧ decode cX11_isAhead 5 = .ok (.bipush 99, 2) ∧ decode cX11_isAhead 7 = .ok (.if_icmp .gt 7, 3) ∧ decode cX11_isAhead 10 = .ok (.iconst 1, 1) ∧ decode cX11_isAhead 11 = .ok (.goto 4, 3) ∧ decode cX11_isAhead 14 = .ok (.iconst 0, 1) ∧ decode cX11_isAhead 15 = .ok (.ireturn, 1) := by decide +kernel
theorem S_X11_isAhead {G : Kg} {σ : Kmem} {Q : Int → Kmem → Prop} {l1 : Int}  (h : (rI l1) ∧ ((l1 < 0 → Q 0 σ) ∧ (0 ≤ l1 → ((99 < l1 → Q 0 σ) ∧ (l1 ≤ 99 → Q 1 σ))))) : Run G WX M_X11_isAhead 0 0 0 [vA G 0, vI l1] σ Q := by
  refine Run.of (by decide +kernel) (by show (2 : Nat) ≤ 2; decide) ?_
  show Ex G WX M_X11_isAhead 0 0 0 0 [(0, vA G 0), (1, vI l1)] [] σ Q
  refine R_iload_n e_X11_isAhead_0.1 1 rfl ?_
  obtain ⟨q1, h⟩ := h
  refine R_if_lt 14 e_X11_isAhead_0.2.1 (by decide) q1  (fun q => ?_) (fun q => ?_)
  · replace h := h.1 q
    refine R_iconst e_X11_isAhead_0.2.2.2.2.2.2.2.1 ?_
    exact R_zreturn e_X11_isAhead_0.2.2.2.2.2.2.2.2 rfl (Or.inl rfl) h
  · replace h := h.2 q
    refine R_iload_n e_X11_isAhead_0.2.2.1 1 rfl ?_
    refine R_bipush e_X11_isAhead_0.2.2.2.1 (by decide) ?_
    refine R_icmp_gt 14 e_X11_isAhead_0.2.2.2.2.1 (by decide) q1 (by decide) (fun q => ?_) (fun q => ?_)
    · replace h := h.1 q
      refine R_iconst e_X11_isAhead_0.2.2.2.2.2.2.2.1 ?_
      exact R_zreturn e_X11_isAhead_0.2.2.2.2.2.2.2.2 rfl (Or.inl rfl) h
    · replace h := h.2 q
      refine R_iconst e_X11_isAhead_0.2.2.2.2.2.1 ?_
      refine R_goto 15 e_X11_isAhead_0.2.2.2.2.2.2.1 (by decide) ?_
      exact R_zreturn e_X11_isAhead_0.2.2.2.2.2.2.2.2 rfl (Or.inr rfl) h
/-! KiteLand.putOnTape(I)V -/
theorem e_X11_putOnTape_0 : decode cX11_putOnTape 0 = .ok (.bipush 24, 2) ∧ decode cX11_putOnTape 2 = .ok (.istore_n 2, 1) ∧ decode cX11_putOnTape 3 = .ok (.iload_n 2, 1) ∧ decode cX11_putOnTape 4 = .ok (.ifCond .lt 32, 3) ∧ decode cX11_putOnTape 7 = .ok (.aload_n 0, 1) ∧ decode cX11_putOnTape 8 = .ok (.getfield 26, 3) ∧ decode cX11_putOnTape 11 = .ok (.aload_n 0, 1) ∧ decode cX11_putOnTape 12 = .ok (.getfield 30, 3) ∧ decode cX11_putOnTape 15 = .ok (.iload_n 1, 1) ∧ decode cX11_putOnTape 16 = .ok (.iload_n 2, 1) := by decide +kernel
theorem e_X11_putOnTape_1 : decode cX11_putOnTape 17 = .ok (.ishr, 1) ∧ decode cX11_putOnTape 18 = .ok (.i2b, 1) ∧ decode cX11_putOnTape 19 = .ok (.bastore, 1) ∧ decode cX11_putOnTape 20 = .ok (.aload_n 0, 1) ∧ decode cX11_putOnTape 21 = .ok (.dup, 1) ∧ decode cX11_putOnTape 22 = .ok (.getfield 30, 3) ∧ decode cX11_putOnTape 25 = .ok (.iconst 1, 1) ∧ decode cX11_putOnTape 26 = .ok (.iadd, 1) ∧ decode cX11_putOnTape 27 = .ok (.putfield 30, 3) ∧ decode cX11_putOnTape 30 = .ok (.iinc 2 (-8), 3) := by decide +kernel
theorem e_X11_putOnTape_2 : decode cX11_putOnTape 33 = .ok (.goto (-30), 3) ∧ decode cX11_putOnTape 36 = .ok (.return_, 1) := by decide +kernel
abbrev E_X11_putOnTape_3 (G : Kg) (l1 l2 : Int) (σ : Kmem) (Q : Int → Kmem → Prop) : Prop := Ex G WX M_X11_putOnTape 0 0 0 3 [(0, vA G 0), (1, vI l1), (2, vI l2)] [] σ Q
theorem S_X11_putOnTape {G : Kg} {σ : Kmem} {Q : Int → Kmem → Prop} {l1 : Int}  (h : E_X11_putOnTape_3 G l1 24 σ Q) : Run G WX M_X11_putOnTape 0 0 0 [vA G 0, vI l1] σ Q := by
  refine Run.of (by decide +kernel) (by show (2 : Nat) ≤ 3; decide) ?_
  show Ex G WX M_X11_putOnTape 0 0 0 0 [(0, vA G 0), (1, vI l1)] [] σ Q
  refine R_bipush e_X11_putOnTape_0.1 (by decide) ?_
  refine R_istore_n (ls2 := [(2, vI 24), (0, vA G 0), (1, vI l1)]) e_X11_putOnTape_0.2.1 (by decide) rfl ?_
  refine R_ls (ls2 := [(0, vA G 0), (1, vI l1), (2, vI 24)]) [1, 2, 0] rfl ?_
  exact h
theorem S_X11_putOnTape_3 {G : Kg} {σ : Kmem} {Q : Int → Kmem → Prop} {l1 l2 : Int}  (h : (rI l2) ∧ ((l2 < 0 → Q 0 σ) ∧ (0 ≤ l2 → (0 ≤ σ 0 5 ∧ σ 0 5 < 900) ∧ E_X11_putOnTape_3 G l1 (l2 + (-8)) (kup (kup σ 2 (σ 0 5) (ki2b (ki2b (kshr l1 l2)))) 0 5 (((kup σ 2 (σ 0 5) (ki2b (ki2b (kshr l1 l2)))) 0 5) + 1)) Q))) : E_X11_putOnTape_3 G l1 l2 σ Q := by
  refine R_iload_n e_X11_putOnTape_0.2.2.1 2 rfl ?_
  obtain ⟨q1, h⟩ := h
  refine R_if_lt 36 e_X11_putOnTape_0.2.2.2.1 (by decide) q1  (fun q => ?_) (fun q => ?_)
  · replace h := h.1 q
    exact R_return e_X11_putOnTape_2.2 rfl h
  · replace h := h.2 q
    refine R_aload_n e_X11_putOnTape_0.2.2.2.2.1 0 rfl ?_
    refine R_getA 11 4 2 e_X11_putOnTape_0.2.2.2.2.2.1 f_X11_26 kx_0 (fun _ _ => rfl) rx_0_4 (by decide) ?_
    refine R_aload_n e_X11_putOnTape_0.2.2.2.2.2.2.1 0 rfl ?_
    refine R_getI 11 5 5 e_X11_putOnTape_0.2.2.2.2.2.2.2.1 f_X11_30 kx_0 (fun _ _ => rfl) rfl ?_
    refine R_iload_n e_X11_putOnTape_0.2.2.2.2.2.2.2.2.1 1 rfl ?_
    refine R_iload_n e_X11_putOnTape_0.2.2.2.2.2.2.2.2.2 2 rfl ?_
    refine R_ishr e_X11_putOnTape_1.1 ?_
    refine R_i2b e_X11_putOnTape_1.2.1 ?_
    obtain ⟨q2, h⟩ := h
    refine R_bast 900 WX_ok e_X11_putOnTape_1.2.2.1 kxa_2 q2 ?_
    refine R_aload_n e_X11_putOnTape_1.2.2.2.1 0 rfl ?_
    refine R_dup e_X11_putOnTape_1.2.2.2.2.1 rfl ?_
    refine R_getI 11 5 5 e_X11_putOnTape_1.2.2.2.2.2.1 f_X11_30 kx_0 (fun _ _ => rfl) rfl ?_
    refine R_iconst e_X11_putOnTape_1.2.2.2.2.2.2.1 ?_
    refine R_iadd e_X11_putOnTape_1.2.2.2.2.2.2.2.1 ?_
    refine R_putI 11 5 5 WX_ok e_X11_putOnTape_1.2.2.2.2.2.2.2.2.1 f_X11_30 kx_0 rfl rfl rfl ?_
    refine R_iinc (ls2 := [(2, vI (l2 + (-8))), (0, vA G 0), (1, vI l1)]) e_X11_putOnTape_1.2.2.2.2.2.2.2.2.2 2 rfl (by decide) rfl ?_
    refine R_goto 3 e_X11_putOnTape_2.1 (by decide) ?_
    refine R_ls (ls2 := [(0, vA G 0), (1, vI l1), (2, vI (l2 + (-8)))]) [1, 2, 0] rfl ?_
    exact h
/-! KiteLand.lookNow()V -/
theorem e_X11_lookNow_0 : decode cX11_lookNow 0 = .ok (.aload_n 0, 1) ∧ decode cX11_lookNow 1 = .ok (.getfield 64, 3) ∧ decode cX11_lookNow 4 = .ok (.aload_n 0, 1) ∧ decode cX11_lookNow 5 = .ok (.getfield 43, 3) ∧ decode cX11_lookNow 8 = .ok (.aload_n 0, 1) ∧ decode cX11_lookNow 9 = .ok (.getfield 43, 3) ∧ decode cX11_lookNow 12 = .ok (.invokevirtual 488, 3) ∧ decode cX11_lookNow 15 = .ok (.invokevirtual 308, 3) ∧ decode cX11_lookNow 18 = .ok (.return_, 1) := by decide +kernel
theorem S_X11_lookNow {G : Kg} {σ : Kmem} {Q : Int → Kmem → Prop}  (h : (0 ≤ σ 5 4 ∧ σ 5 4 ≤ 2147483647) ∧ Run G WX M_X8_look 3 0 0 [vA G 58, vA G 5, vI ((σ 5 4) % 12)] σ (fun r4 s5 => Q 0 s5)) : Run G WX M_X11_lookNow 4 0 0 [vA G 0] σ Q := by
  refine Run.of (by decide +kernel) (by show (1 : Nat) ≤ 1; decide) ?_
  show Ex G WX M_X11_lookNow 4 0 0 0 [(0, vA G 0)] [] σ Q
  refine R_aload_n e_X11_lookNow_0.1 0 rfl ?_
  refine R_getA 11 10 58 e_X11_lookNow_0.2.1 f_X11_64 kx_0 (fun _ _ => rfl) rx_0_10 (by decide) ?_
  refine R_aload_n e_X11_lookNow_0.2.2.1 0 rfl ?_
  refine R_getA 11 7 5 e_X11_lookNow_0.2.2.2.1 f_X11_43 kx_0 (fun _ _ => rfl) rx_0_7 (by decide) ?_
  refine R_aload_n e_X11_lookNow_0.2.2.2.2.1 0 rfl ?_
  refine R_getA 11 7 5 e_X11_lookNow_0.2.2.2.2.2.1 f_X11_43 kx_0 (fun _ _ => rfl) rx_0_7 (by decide) ?_
  refine R_callV (mc := 0) (ms := 0) (mc' := 0) (ms' := 0) (M' := M_X0_hourOfDay) (d' := 0) (as := []) (st := [vA G 5, vA G 58]) 0 0 e_X11_lookNow_0.2.2.2.2.2.2.1 (kCVof m_X0_hourOfDay l_X11_488) rfl (by decide) (kC_self isC_5) (by decide) (by decide) rfl rfl (by show (2 : Nat) ≤ 8; decide) ?_
  obtain ⟨q3, h⟩ := h
  refine S_X0_hourOfDay isC_5 ⟨q3, ?_⟩
  refine R_eqs (st2 := [vI ((σ 5 4) % 12), vA G 5, vA G 58]) (σ2 := σ) rfl rfl ?_
  refine R_callV (mc := 0) (ms := 0) (mc' := 0) (ms' := 0) (M' := M_X8_look) (d' := 3) (as := [vA G 5, vI ((σ 5 4) % 12)]) (st := []) 8 2 e_X11_lookNow_0.2.2.2.2.2.2.2.1 (kCVof m_X8_look l_X11_308) rfl (by decide) kx_58 (by decide) (by decide) rfl rfl (by show (0 : Nat) ≤ 8; decide) ?_
  refine Run.mono h (fun r4 s5 h => ?_)
  refine R_eqs (st2 := []) rfl rfl ?_
  exact R_return e_X11_lookNow_0.2.2.2.2.2.2.2.2 rfl h
/-! KiteLand.goAhead(I)V -/
theorem e_X11_goAhead_0 : decode cX11_goAhead 0 = .ok (.aload_n 0, 1) ∧ decode cX11_goAhead 1 = .ok (.getfield 47, 3) ∧ decode cX11_goAhead 4 = .ok (.aload_n 0, 1) ∧ decode cX11_goAhead 5 = .ok (.getfield 43, 3) ∧ decode cX11_goAhead 8 = .ok (.invokevirtual 167, 3) ∧ decode cX11_goAhead 11 = .ok (.aload_n 0, 1) ∧ decode cX11_goAhead 12 = .ok (.getfield 47, 3) ∧ decode cX11_goAhead 15 = .ok (.aload_n 0, 1) ∧ decode cX11_goAhead 16 = .ok (.getfield 64, 3) ∧ decode cX11_goAhead 19 = .ok (.iload_n 1, 1) := by decide +kernel
theorem e_X11_goAhead_1 : decode cX11_goAhead 20 = .ok (.invokevirtual 349, 3) ∧ decode cX11_goAhead 23 = .ok (.pop, 1) ∧ decode cX11_goAhead 24 = .ok (.return_, 1) := by decide +kernel
theorem S_X11_goAhead {G : Kg} {σ : Kmem} {Q : Int → Kmem → Prop} {l1 : Int}  (h : Run G WX M_X0_copy 1 0 0 [vA G 31, vA G 5] σ (fun r1 s2 => Run G WX M_X0_goBy 4 0 0 [vA G 31, vA G 58, vI l1] s2 (fun r3 s4 => Q 0 s4))) : Run G WX M_X11_goAhead 5 0 0 [vA G 0, vI l1] σ Q := by
  refine Run.of (by decide +kernel) (by show (2 : Nat) ≤ 2; decide) ?_
  show Ex G WX M_X11_goAhead 5 0 0 0 [(0, vA G 0), (1, vI l1)] [] σ Q
  refine R_aload_n e_X11_goAhead_0.1 0 rfl ?_
  refine R_getA 11 8 31 e_X11_goAhead_0.2.1 f_X11_47 kx_0 (fun _ _ => rfl) rx_0_8 (by decide) ?_
  refine R_aload_n e_X11_goAhead_0.2.2.1 0 rfl ?_
  refine R_getA 11 7 5 e_X11_goAhead_0.2.2.2.1 f_X11_43 kx_0 (fun _ _ => rfl) rx_0_7 (by decide) ?_
  refine R_callV (mc := 0) (ms := 0) (mc' := 0) (ms' := 0) (M' := M_X0_copy) (d' := 1) (as := [vA G 5]) (st := []) 0 1 e_X11_goAhead_0.2.2.2.2.1 (kCVof m_X0_copy l_X11_167) rfl (by decide) (kC_self isC_31) (by decide) (by decide) rfl rfl (by show (0 : Nat) ≤ 8; decide) ?_
  refine Run.mono h (fun r1 s2 h => ?_)
  refine R_eqs (st2 := []) rfl rfl ?_
  refine R_aload_n e_X11_goAhead_0.2.2.2.2.2.1 0 rfl ?_
  refine R_getA 11 8 31 e_X11_goAhead_0.2.2.2.2.2.2.1 f_X11_47 kx_0 (fun _ _ => rfl) rx_0_8 (by decide) ?_
  refine R_aload_n e_X11_goAhead_0.2.2.2.2.2.2.2.1 0 rfl ?_
  refine R_getA 11 10 58 e_X11_goAhead_0.2.2.2.2.2.2.2.2.1 f_X11_64 kx_0 (fun _ _ => rfl) rx_0_10 (by decide) ?_
  refine R_iload_n e_X11_goAhead_0.2.2.2.2.2.2.2.2.2 1 rfl ?_
  refine R_callV (mc := 0) (ms := 0) (mc' := 0) (ms' := 0) (M' := M_X0_goBy) (d' := 4) (as := [vA G 58, vI l1]) (st := []) 0 2 e_X11_goAhead_1.1 (kCVof m_X0_goBy l_X11_349) rfl (by decide) (kC_self isC_31) (by decide) (by decide) rfl rfl (by show (0 : Nat) ≤ 8; decide) ?_
  refine Run.mono h (fun r3 s4 h => ?_)
  refine R_eqs (st2 := [vI r3]) rfl rfl ?_
  refine R_pop e_X11_goAhead_1.2.1 rfl ?_
  exact R_return e_X11_goAhead_1.2.2 rfl h
/-! KiteLand.tellFraction(JJ)V -/
theorem e_X11_tellFraction_0 : decode cX11_tellFraction 0 = .ok (.lload_n 1, 1) ∧ decode cX11_tellFraction 1 = .ok (.lstore 5, 2) ∧ decode cX11_tellFraction 3 = .ok (.lload_n 3, 1) ∧ decode cX11_tellFraction 4 = .ok (.lstore 7, 2) ∧ decode cX11_tellFraction 6 = .ok (.iconst 0, 1) ∧ decode cX11_tellFraction 7 = .ok (.istore 9, 2) ∧ decode cX11_tellFraction 9 = .ok (.iload 9, 2) ∧ decode cX11_tellFraction 11 = .ok (.bipush 100, 2) ∧ decode cX11_tellFraction 13 = .ok (.if_icmp .ge 31, 3) ∧ decode cX11_tellFraction 16 = .ok (.lload 7, 2) := by decide +kernel
theorem e_X11_tellFraction_1 : decode cX11_tellFraction 18 = .ok (.lconst 0, 1) ∧ decode cX11_tellFraction 19 = .ok (.lcmp, 1) ∧ decode cX11_tellFraction 20 = .ok (.ifCond .eq 24, 3) ∧ decode cX11_tellFraction 23 = .ok (.lload 5, 2) ∧ decode cX11_tellFraction 25 = .ok (.lload 7, 2) ∧ decode cX11_tellFraction 27 = .ok (.lrem, 1) ∧ decode cX11_tellFraction 28 = .ok (.lstore 10, 2) ∧ decode cX11_tellFraction 30 = .ok (.lload 7, 2) ∧ decode cX11_tellFraction 32 = .ok (.lstore 5, 2) ∧ decode cX11_tellFraction 34 = .ok (.lload 10, 2) := by decide +kernel
theorem e_X11_tellFraction_2 : decode cX11_tellFraction 36 = .ok (.lstore 7, 2) ∧ decode cX11_tellFraction 38 = .ok (.iinc 9 1, 3) ∧ decode cX11_tellFraction 41 = .ok (.goto (-32), 3) ∧ decode cX11_tellFraction 44 = .ok (.lload 5, 2) ∧ decode cX11_tellFraction 46 = .ok (.lconst 0, 1) ∧ decode cX11_tellFraction 47 = .ok (.lcmp, 1) ∧ decode cX11_tellFraction 48 = .ok (.ifCond .le 19, 3) ∧ decode cX11_tellFraction 51 = .ok (.aload_n 0, 1) ∧ decode cX11_tellFraction 52 = .ok (.lload_n 1, 1) ∧ decode cX11_tellFraction 53 = .ok (.lload 5, 2) := by decide +kernel
theorem e_X11_tellFraction_3 : decode cX11_tellFraction 55 = .ok (.ldiv, 1) ∧ decode cX11_tellFraction 56 = .ok (.putfield 13, 3) ∧ decode cX11_tellFraction 59 = .ok (.aload_n 0, 1) ∧ decode cX11_tellFraction 60 = .ok (.lload_n 3, 1) ∧ decode cX11_tellFraction 61 = .ok (.lload 5, 2) ∧ decode cX11_tellFraction 63 = .ok (.ldiv, 1) ∧ decode cX11_tellFraction 64 = .ok (.putfield 17, 3) ∧ decode cX11_tellFraction 67 = .ok (.return_, 1) := by decide +kernel
abbrev E_X11_tellFraction_9 (G : Kg) (l1 l3 l5 l7 l9 : Int) (σ : Kmem) (Q : Int → Kmem → Prop) : Prop := Ex G WX M_X11_tellFraction 0 0 0 9 [(0, vA G 0), (1, vL l1), (3, vL l3), (5, vL l5), (7, vL l7), (9, vI l9)] [] σ Q
theorem S_X11_tellFraction {G : Kg} {σ : Kmem} {Q : Int → Kmem → Prop} {l1 l3 : Int}  (h : E_X11_tellFraction_9 G l1 l3 l1 l3 0 σ Q) : Run G WX M_X11_tellFraction 0 0 0 [vA G 0, vL l1, vL l3] σ Q := by
  refine Run.of (by decide +kernel) (by show (5 : Nat) ≤ 12; decide) ?_
  show Ex G WX M_X11_tellFraction 0 0 0 0 [(0, vA G 0), (1, vL l1), (3, vL l3)] [] σ Q
  refine R_lload_n e_X11_tellFraction_0.1 1 rfl ?_
  refine R_lstore (ls2 := [(5, vL l1), (0, vA G 0), (1, vL l1), (3, vL l3)]) e_X11_tellFraction_0.2.1 (by decide) rfl ?_
  refine R_lload_n e_X11_tellFraction_0.2.2.1 3 rfl ?_
  refine R_lstore (ls2 := [(7, vL l3), (5, vL l1), (0, vA G 0), (1, vL l1), (3, vL l3)]) e_X11_tellFraction_0.2.2.2.1 (by decide) rfl ?_
  refine R_iconst e_X11_tellFraction_0.2.2.2.2.1 ?_
  refine R_istore (ls2 := [(9, vI 0), (7, vL l3), (5, vL l1), (0, vA G 0), (1, vL l1), (3, vL l3)]) e_X11_tellFraction_0.2.2.2.2.2.1 (by decide) rfl ?_
  refine R_ls (ls2 := [(0, vA G 0), (1, vL l1), (3, vL l3), (5, vL l1), (7, vL l3), (9, vI 0)]) [3, 4, 5, 2, 1, 0] rfl ?_
  exact h
theorem S_X11_tellFraction_9 {G : Kg} {σ : Kmem} {Q : Int → Kmem → Prop} {l1 l3 l5 l7 l9 : Int}  (h : (rI l9) ∧ ((100 ≤ l9 → (rL l5) ∧ ((l5 ≤ 0 → Q 0 σ) ∧ (0 < l5 → (0 ≤ l1 ∧ l1 ≤ 9223372036854775807) ∧ (0 < l5 ∧ l5 ≤ 9223372036854775807) ∧ (0 ≤ l3 ∧ l3 ≤ 9223372036854775807) ∧ (0 < l5 ∧ l5 ≤ 9223372036854775807) ∧ Q 0 (kup (kup σ 0 1 (l1 / l5)) 0 2 (l3 / l5))))) ∧ (l9 < 100 → (rL l7) ∧ ((l7 = 0 → (rL l5) ∧ ((l5 ≤ 0 → Q 0 σ) ∧ (0 < l5 → (0 ≤ l1 ∧ l1 ≤ 9223372036854775807) ∧ (0 < l5 ∧ l5 ≤ 9223372036854775807) ∧ (0 ≤ l3 ∧ l3 ≤ 9223372036854775807) ∧ (0 < l5 ∧ l5 ≤ 9223372036854775807) ∧ Q 0 (kup (kup σ 0 1 (l1 / l5)) 0 2 (l3 / l5))))) ∧ (l7 ≠ 0 → (0 ≤ l5 ∧ l5 ≤ 9223372036854775807) ∧ (0 < l7 ∧ l7 ≤ 9223372036854775807) ∧ E_X11_tellFraction_9 G l1 l3 l7 (l5 % l7) (l9 + 1) σ Q))))) : E_X11_tellFraction_9 G l1 l3 l5 l7 l9 σ Q := by
  refine R_iload e_X11_tellFraction_0.2.2.2.2.2.2.1 5 rfl ?_
  refine R_bipush e_X11_tellFraction_0.2.2.2.2.2.2.2.1 (by decide) ?_
  obtain ⟨q1, h⟩ := h
  refine R_icmp_ge 44 e_X11_tellFraction_0.2.2.2.2.2.2.2.2.1 (by decide) q1 (by decide) (fun q => ?_) (fun q => ?_)
  · replace h := h.1 q
    refine R_lload e_X11_tellFraction_2.2.2.2.1 3 rfl ?_
    refine R_lconst 0 e_X11_tellFraction_2.2.2.2.2.1 (by decide) ?_
    obtain ⟨q2, h⟩ := h
    refine R_lcmp e_X11_tellFraction_2.2.2.2.2.2.1 q2 (by decide) ?_
    refine R_if_le 67 e_X11_tellFraction_2.2.2.2.2.2.2.1 (by decide) (kcmp_r _ _) (fun q => ?_) (fun q => ?_)
    · replace h := h.1 (kcmp_le_t.mp q)
      exact R_return e_X11_tellFraction_3.2.2.2.2.2.2.2 rfl h
    · replace h := h.2 (kcmp_le_f.mp q)
      refine R_aload_n e_X11_tellFraction_2.2.2.2.2.2.2.2.1 0 rfl ?_
      refine R_lload_n e_X11_tellFraction_2.2.2.2.2.2.2.2.2.1 1 rfl ?_
      refine R_lload e_X11_tellFraction_2.2.2.2.2.2.2.2.2.2 3 rfl ?_
      obtain ⟨q3, h⟩ := h
      obtain ⟨q4, h⟩ := h
      refine R_ldiv e_X11_tellFraction_3.1 q3 q4 ?_
      refine R_putL 11 1 1 WX_ok e_X11_tellFraction_3.2.1 f_X11_13 kx_0 rfl rfl rfl ?_
      refine R_aload_n e_X11_tellFraction_3.2.2.1 0 rfl ?_
      refine R_lload_n e_X11_tellFraction_3.2.2.2.1 2 rfl ?_
      refine R_lload e_X11_tellFraction_3.2.2.2.2.1 3 rfl ?_
      obtain ⟨q5, h⟩ := h
      obtain ⟨q6, h⟩ := h
      refine R_ldiv e_X11_tellFraction_3.2.2.2.2.2.1 q5 q6 ?_
      refine R_putL 11 2 2 WX_ok e_X11_tellFraction_3.2.2.2.2.2.2.1 f_X11_17 kx_0 rfl rfl rfl ?_
      exact R_return e_X11_tellFraction_3.2.2.2.2.2.2.2 rfl h
  · replace h := h.2 q
    refine R_lload e_X11_tellFraction_0.2.2.2.2.2.2.2.2.2 4 rfl ?_
    refine R_lconst 0 e_X11_tellFraction_1.1 (by decide) ?_
    obtain ⟨q7, h⟩ := h
    refine R_lcmp e_X11_tellFraction_1.2.1 q7 (by decide) ?_
    refine R_if_eq 44 e_X11_tellFraction_1.2.2.1 (by decide) (kcmp_r _ _) (fun q => ?_) (fun q => ?_)
    · replace h := h.1 (kcmp_eq_t.mp q)
      refine R_lload e_X11_tellFraction_2.2.2.2.1 3 rfl ?_
      refine R_lconst 0 e_X11_tellFraction_2.2.2.2.2.1 (by decide) ?_
      obtain ⟨q8, h⟩ := h
      refine R_lcmp e_X11_tellFraction_2.2.2.2.2.2.1 q8 (by decide) ?_
      refine R_if_le 67 e_X11_tellFraction_2.2.2.2.2.2.2.1 (by decide) (kcmp_r _ _) (fun q => ?_) (fun q => ?_)
      · replace h := h.1 (kcmp_le_t.mp q)
        exact R_return e_X11_tellFraction_3.2.2.2.2.2.2.2 rfl h
      · replace h := h.2 (kcmp_le_f.mp q)
        refine R_aload_n e_X11_tellFraction_2.2.2.2.2.2.2.2.1 0 rfl ?_
        refine R_lload_n e_X11_tellFraction_2.2.2.2.2.2.2.2.2.1 1 rfl ?_
        refine R_lload e_X11_tellFraction_2.2.2.2.2.2.2.2.2.2 3 rfl ?_
        obtain ⟨q9, h⟩ := h
        obtain ⟨q10, h⟩ := h
        refine R_ldiv e_X11_tellFraction_3.1 q9 q10 ?_
        refine R_putL 11 1 1 WX_ok e_X11_tellFraction_3.2.1 f_X11_13 kx_0 rfl rfl rfl ?_
        refine R_aload_n e_X11_tellFraction_3.2.2.1 0 rfl ?_
        refine R_lload_n e_X11_tellFraction_3.2.2.2.1 2 rfl ?_
        refine R_lload e_X11_tellFraction_3.2.2.2.2.1 3 rfl ?_
        obtain ⟨q11, h⟩ := h
        obtain ⟨q12, h⟩ := h
        refine R_ldiv e_X11_tellFraction_3.2.2.2.2.2.1 q11 q12 ?_
        refine R_putL 11 2 2 WX_ok e_X11_tellFraction_3.2.2.2.2.2.2.1 f_X11_17 kx_0 rfl rfl rfl ?_
        exact R_return e_X11_tellFraction_3.2.2.2.2.2.2.2 rfl h
    · replace h := h.2 (kcmp_eq_f.mp q)
      refine R_lload e_X11_tellFraction_1.2.2.2.1 3 rfl ?_
      refine R_lload e_X11_tellFraction_1.2.2.2.2.1 4 rfl ?_
      obtain ⟨q13, h⟩ := h
      obtain ⟨q14, h⟩ := h
      refine R_lrem e_X11_tellFraction_1.2.2.2.2.2.1 q13 q14 ?_
      refine R_lstore (ls2 := [(10, vL (l5 % l7)), (0, vA G 0), (1, vL l1), (3, vL l3), (5, vL l5), (7, vL l7), (9, vI l9)]) e_X11_tellFraction_1.2.2.2.2.2.2.1 (by decide) rfl ?_
      refine R_lload e_X11_tellFraction_1.2.2.2.2.2.2.2.1 5 rfl ?_
      refine R_lstore (ls2 := [(5, vL l7), (10, vL (l5 % l7)), (0, vA G 0), (1, vL l1), (3, vL l3), (7, vL l7), (9, vI l9)]) e_X11_tellFraction_1.2.2.2.2.2.2.2.2.1 (by decide) rfl ?_
      refine R_lload e_X11_tellFraction_1.2.2.2.2.2.2.2.2.2 1 rfl ?_
      refine R_lstore (ls2 := [(7, vL (l5 % l7)), (5, vL l7), (10, vL (l5 % l7)), (0, vA G 0), (1, vL l1), (3, vL l3), (9, vI l9)]) e_X11_tellFraction_2.1 (by decide) rfl ?_
      refine R_iinc (ls2 := [(9, vI (l9 + 1)), (7, vL (l5 % l7)), (5, vL l7), (10, vL (l5 % l7)), (0, vA G 0), (1, vL l1), (3, vL l3)]) e_X11_tellFraction_2.2.1 6 rfl (by decide) rfl ?_
      refine R_goto 9 e_X11_tellFraction_2.2.2.1 (by decide) ?_
      refine R_ls (ls2 := [(0, vA G 0), (1, vL l1), (3, vL l3), (5, vL l7), (7, vL (l5 % l7)), (9, vI (l9 + 1))]) [4, 5, 6, 2, 1, 0] rfl ?_
      exact h
/-! KiteLand$County.hasFieldNumber(J)Z -/
theorem e_X0_hasFieldNumber_0 : decode cX0_hasFieldNumber 0 = .ok (.lload_n 1, 1) ∧ decode cX0_hasFieldNumber 1 = .ok (.lconst 0, 1) ∧ decode cX0_hasFieldNumber 2 = .ok (.lcmp, 1) ∧ decode cX0_hasFieldNumber 3 = .ok (.ifCond .lt 32, 3) ∧ decode cX0_hasFieldNumber 6 = .ok (.lload_n 1, 1) ∧ decode cX0_hasFieldNumber 7 = .ok (.ldc2_w 87, 3) ∧ decode cX0_hasFieldNumber 10 = .ok (.lcmp, 1) ∧ decode cX0_hasFieldNumber 11 = .ok (.ifCond .ge 24, 3) ∧ decode cX0_hasFieldNumber 14 = .ok (.aload_n 0, 1) ∧ decode cX0_hasFieldNumber 15 = .ok (.lload_n 1, 1) := by decide +kernel
theorem e_X0_hasFieldNumber_1 : decode cX0_hasFieldNumber 16 = .ok (.l2i, 1) ∧ decode cX0_hasFieldNumber 17 = .ok (.bipush 10, 2) ∧ decode cX0_hasFieldNumber 19 = .ok (.irem, 1) ∧ decode cX0_hasFieldNumber 20 = .ok (.lload_n 1, 1) ∧ decode cX0_hasFieldNumber 21 = .ok (.l2i, 1) ∧ decode cX0_hasFieldNumber 22 = .ok (.bipush 10, 2) ∧ decode cX0_hasFieldNumber 24 = .ok (.idiv, 1) ∧ decode cX0_hasFieldNumber 25 = .ok (.invokevirtual 89, 3) ∧ decode cX0_hasFieldNumber 28 = .ok (.ifCond .eq 7, 3) ∧ decode cX0_hasFieldNumber 31 = .ok (.iconst 1, 1) := by decide +kernel
theorem e_X0_hasFieldNumber_2 : decode cX0_hasFieldNumber 32 = .ok (.goto 4, 3) ∧ decode cX0_hasFieldNumber 35 = .ok (.iconst 0, 1) ∧ decode cX0_hasFieldNumber 36 = .ok (.ireturn, 1) := by decide +kernel
theorem S_X0_hasFieldNumber {G : Kg} {σ : Kmem} {Q : Int → Kmem → Prop} {c l1 : Int} (hc : isC c) (h : (rL l1) ∧ ((l1 < 0 → Q 0 σ) ∧ (0 ≤ l1 → ((70 ≤ l1 → Q 0 σ) ∧ (l1 < 70 → (0 ≤ l1 ∧ l1 ≤ 2147483647) ∧ (0 ≤ l1 ∧ l1 ≤ 2147483647) ∧ Run G WX M_X0_hasField 1 0 0 [vA G c, vI (l1 % 10), vI (l1 / 10)] σ (fun r4 s5 => (rI r4) ∧ ((r4 = 0 → Q 0 s5) ∧ (r4 ≠ 0 → Q 1 s5)))))))) : Run G WX M_X0_hasFieldNumber 2 0 0 [vA G c, vL l1] σ Q := by
  refine Run.of (by decide +kernel) (by show (3 : Nat) ≤ 3; decide) ?_
  show Ex G WX M_X0_hasFieldNumber 2 0 0 0 [(0, vA G c), (1, vL l1)] [] σ Q
  refine R_lload_n e_X0_hasFieldNumber_0.1 1 rfl ?_
  refine R_lconst 0 e_X0_hasFieldNumber_0.2.1 (by decide) ?_
  obtain ⟨q1, h⟩ := h
  refine R_lcmp e_X0_hasFieldNumber_0.2.2.1 q1 (by decide) ?_
  refine R_if_lt 35 e_X0_hasFieldNumber_0.2.2.2.1 (by decide) (kcmp_r _ _) (fun q => ?_) (fun q => ?_)
  · replace h := h.1 (kcmp_lt_t.mp q)
    refine R_iconst e_X0_hasFieldNumber_2.2.1 ?_
    exact R_zreturn e_X0_hasFieldNumber_2.2.2 rfl (Or.inl rfl) h
  · replace h := h.2 (kcmp_lt_f.mp q)
    refine R_lload_n e_X0_hasFieldNumber_0.2.2.2.2.1 1 rfl ?_
    refine R_ldc2 (70) k_X0_87 e_X0_hasFieldNumber_0.2.2.2.2.2.1 ?_
    refine R_lcmp e_X0_hasFieldNumber_0.2.2.2.2.2.2.1 q1 (by decide) ?_
    refine R_if_ge 35 e_X0_hasFieldNumber_0.2.2.2.2.2.2.2.1 (by decide) (kcmp_r _ _) (fun q => ?_) (fun q => ?_)
    · replace h := h.1 (kcmp_ge_t.mp q)
      refine R_iconst e_X0_hasFieldNumber_2.2.1 ?_
      exact R_zreturn e_X0_hasFieldNumber_2.2.2 rfl (Or.inl rfl) h
    · replace h := h.2 (kcmp_ge_f.mp q)
      refine R_aload_n e_X0_hasFieldNumber_0.2.2.2.2.2.2.2.2.1 0 rfl ?_
      refine R_lload_n e_X0_hasFieldNumber_0.2.2.2.2.2.2.2.2.2 1 rfl ?_
      refine R_l2i e_X0_hasFieldNumber_1.1 ?_
      refine R_bipush e_X0_hasFieldNumber_1.2.1 (by decide) ?_
      obtain ⟨q2, h⟩ := h
      refine R_irem e_X0_hasFieldNumber_1.2.2.1 q2 (by decide) ?_
      refine R_lload_n e_X0_hasFieldNumber_1.2.2.2.1 1 rfl ?_
      refine R_l2i e_X0_hasFieldNumber_1.2.2.2.2.1 ?_
      refine R_bipush e_X0_hasFieldNumber_1.2.2.2.2.2.1 (by decide) ?_
      obtain ⟨q3, h⟩ := h
      refine R_idiv e_X0_hasFieldNumber_1.2.2.2.2.2.2.1 q3 (by decide) ?_
      refine R_callV (mc := 0) (ms := 0) (mc' := 0) (ms' := 0) (M' := M_X0_hasField) (d' := 1) (as := [vI (l1 % 10), vI (l1 / 10)]) (st := []) 0 2 e_X0_hasFieldNumber_1.2.2.2.2.2.2.2.1 (kCVof m_X0_hasField l_X0_89) rfl (by decide) (kC_self hc) (by decide) (by decide) rfl rfl (by show (0 : Nat) ≤ 8; decide) ?_
      refine Run.mono h (fun r4 s5 h => ?_)
      refine R_eqs (st2 := [vI r4]) rfl rfl ?_
      obtain ⟨q6, h⟩ := h
      refine R_if_eq 35 e_X0_hasFieldNumber_1.2.2.2.2.2.2.2.2.1 (by decide) q6  (fun q => ?_) (fun q => ?_)
      · replace h := h.1 q
        refine R_iconst e_X0_hasFieldNumber_2.2.1 ?_
        exact R_zreturn e_X0_hasFieldNumber_2.2.2 rfl (Or.inl rfl) h
      · replace h := h.2 q
        refine R_iconst e_X0_hasFieldNumber_1.2.2.2.2.2.2.2.2.2 ?_
        refine R_goto 36 e_X0_hasFieldNumber_2.1 (by decide) ?_
        exact R_zreturn e_X0_hasFieldNumber_2.2.2 rfl (Or.inr rfl) h
/-! KiteLand$Tray.make(II)V -/
theorem e_X10_make_0 : decode cX10_make 0 = .ok (.aload_n 0, 1) ∧ decode cX10_make 1 = .ok (.iconst 1, 1) ∧ decode cX10_make 2 = .ok (.putfield 9, 3) ∧ decode cX10_make 5 = .ok (.aload_n 0, 1) ∧ decode cX10_make 6 = .ok (.iload_n 1, 1) ∧ decode cX10_make 7 = .ok (.putfield 15, 3) ∧ decode cX10_make 10 = .ok (.aload_n 0, 1) ∧ decode cX10_make 11 = .ok (.iload_n 2, 1) ∧ decode cX10_make 12 = .ok (.putfield 19, 3) ∧ decode cX10_make 15 = .ok (.iconst 0, 1) := by decide +kernel
theorem e_X10_make_1 : decode cX10_make 16 = .ok (.istore_n 3, 1) ∧ decode cX10_make 17 = .ok (.iload_n 3, 1) ∧ decode cX10_make 18 = .ok (.bipush 60, 2) ∧ decode cX10_make 20 = .ok (.if_icmp .ge 16, 3) ∧ decode cX10_make 23 = .ok (.aload_n 0, 1) ∧ decode cX10_make 24 = .ok (.getfield 22, 3) ∧ decode cX10_make 27 = .ok (.iload_n 3, 1) ∧ decode cX10_make 28 = .ok (.lconst 0, 1) ∧ decode cX10_make 29 = .ok (.lastore, 1) ∧ decode cX10_make 30 = .ok (.iinc 3 1, 3) := by decide +kernel
theorem e_X10_make_2 : decode cX10_make 33 = .ok (.goto (-16), 3) ∧ decode cX10_make 36 = .ok (.return_, 1) := by decide +kernel
abbrev E_X10_make_17 (G : Kg) (t l3 : Int) (σ : Kmem) (Q : Int → Kmem → Prop) : Prop := Ex G WX M_X10_make 0 0 0 17 [(0, vA G t), (3, vI l3)] [] σ Q
theorem S_X10_make {G : Kg} {σ : Kmem} {Q : Int → Kmem → Prop} {t l1 l2 : Int} (ht : isT t) (h : E_X10_make_17 G t 0 (kup (kup (kup σ t 0 1) t 1 l1) t 2 l2) Q) : Run G WX M_X10_make 0 0 0 [vA G t, vI l1, vI l2] σ Q := by
  refine Run.of (by decide +kernel) (by show (3 : Nat) ≤ 4; decide) ?_
  show Ex G WX M_X10_make 0 0 0 0 [(0, vA G t), (1, vI l1), (2, vI l2)] [] σ Q
  refine R_aload_n e_X10_make_0.1 0 rfl ?_
  refine R_iconst e_X10_make_0.2.1 ?_
  refine R_putZ 10 0 0 WX_ok e_X10_make_0.2.2.1 f_X10_9 (kT_self ht) rfl rfl rfl (Or.inr rfl) ?_
  refine R_aload_n e_X10_make_0.2.2.2.1 0 rfl ?_
  refine R_iload_n e_X10_make_0.2.2.2.2.1 1 rfl ?_
  refine R_putI 10 1 1 WX_ok e_X10_make_0.2.2.2.2.2.1 f_X10_15 (kT_self ht) rfl rfl rfl ?_
  refine R_aload_n e_X10_make_0.2.2.2.2.2.2.1 0 rfl ?_
  refine R_iload_n e_X10_make_0.2.2.2.2.2.2.2.1 2 rfl ?_
  refine R_putI 10 2 2 WX_ok e_X10_make_0.2.2.2.2.2.2.2.2.1 f_X10_19 (kT_self ht) rfl rfl rfl ?_
  refine R_iconst e_X10_make_0.2.2.2.2.2.2.2.2.2 ?_
  refine R_istore_n (ls2 := [(3, vI 0), (0, vA G t), (1, vI l1), (2, vI l2)]) e_X10_make_1.1 (by decide) rfl ?_
  refine R_ls (ls2 := [(0, vA G t), (3, vI 0)]) [1, 0] rfl ?_
  exact h
theorem S_X10_make_17 {G : Kg} {σ : Kmem} {Q : Int → Kmem → Prop} {t l1 l2 l3 : Int} (ht : isT t) (h : (rI l3) ∧ ((60 ≤ l3 → Q 0 σ) ∧ (l3 < 60 → (0 ≤ l3 ∧ l3 < 60) ∧ E_X10_make_17 G t (l3 + 1) (kup σ (t + 1) l3 0) Q))) : E_X10_make_17 G t l3 σ Q := by
  refine R_iload_n e_X10_make_1.2.1 1 rfl ?_
  refine R_bipush e_X10_make_1.2.2.1 (by decide) ?_
  obtain ⟨q1, h⟩ := h
  refine R_icmp_ge 36 e_X10_make_1.2.2.2.1 (by decide) q1 (by decide) (fun q => ?_) (fun q => ?_)
  · replace h := h.1 q
    exact R_return e_X10_make_2.2 rfl h
  · replace h := h.2 q
    refine R_aload_n e_X10_make_1.2.2.2.2.1 0 rfl ?_
    refine R_getA 10 3 (t + 1) e_X10_make_1.2.2.2.2.2.1 f_X10_22 (kT_self ht) (fun _ _ => rfl) (kT_r3 ht) (kT_n1 ht) ?_
    refine R_iload_n e_X10_make_1.2.2.2.2.2.2.1 1 rfl ?_
    refine R_lconst 0 e_X10_make_1.2.2.2.2.2.2.2.1 (by decide) ?_
    obtain ⟨q2, h⟩ := h
    refine R_last 60 WX_ok e_X10_make_1.2.2.2.2.2.2.2.2.1 (kT_nums ht) q2 ?_
    refine R_iinc (ls2 := [(3, vI (l3 + 1)), (0, vA G t)]) e_X10_make_1.2.2.2.2.2.2.2.2.2 1 rfl (by decide) rfl ?_
    refine R_goto 17 e_X10_make_2.1 (by decide) ?_
    refine R_ls (ls2 := [(0, vA G t), (3, vI (l3 + 1))]) [1, 0] rfl ?_
    exact h
/-! KiteLand$Tray.put(IJ)V -/
theorem e_X10_put_0 : decode cX10_put 0 = .ok (.aload_n 0, 1) ∧ decode cX10_put 1 = .ok (.getfield 15, 3) ∧ decode cX10_put 4 = .ok (.tableswitch 66 0 2 #[28, 41, 54], 28) ∧ decode cX10_put 32 = .ok (.aload_n 0, 1) ∧ decode cX10_put 33 = .ok (.getfield 22, 3) ∧ decode cX10_put 36 = .ok (.iload_n 1, 1) ∧ decode cX10_put 37 = .ok (.lload_n 2, 1) ∧ decode cX10_put 38 = .ok (.l2i, 1) ∧ decode cX10_put 39 = .ok (.i2b, 1) ∧ decode cX10_put 40 = .ok (.i2l, 1) := by decide +kernel
theorem e_X10_put_1 : decode cX10_put 41 = .ok (.lastore, 1) ∧ decode cX10_put 42 = .ok (.goto 35, 3) ∧ decode cX10_put 45 = .ok (.aload_n 0, 1) ∧ decode cX10_put 46 = .ok (.getfield 22, 3) ∧ decode cX10_put 49 = .ok (.iload_n 1, 1) ∧ decode cX10_put 50 = .ok (.lload_n 2, 1) ∧ decode cX10_put 51 = .ok (.l2i, 1) ∧ decode cX10_put 52 = .ok (.i2s, 1) ∧ decode cX10_put 53 = .ok (.i2l, 1) ∧ decode cX10_put 54 = .ok (.lastore, 1) := by decide +kernel
theorem e_X10_put_2 : decode cX10_put 55 = .ok (.goto 22, 3) ∧ decode cX10_put 58 = .ok (.aload_n 0, 1) ∧ decode cX10_put 59 = .ok (.getfield 22, 3) ∧ decode cX10_put 62 = .ok (.iload_n 1, 1) ∧ decode cX10_put 63 = .ok (.lload_n 2, 1) ∧ decode cX10_put 64 = .ok (.l2i, 1) ∧ decode cX10_put 65 = .ok (.i2l, 1) ∧ decode cX10_put 66 = .ok (.lastore, 1) ∧ decode cX10_put 67 = .ok (.goto 10, 3) ∧ decode cX10_put 70 = .ok (.aload_n 0, 1) := by decide +kernel
theorem e_X10_put_3 : decode cX10_put 71 = .ok (.getfield 22, 3) ∧ decode cX10_put 74 = .ok (.iload_n 1, 1) ∧ decode cX10_put 75 = .ok (.lload_n 2, 1) ∧ decode cX10_put 76 = .ok (.lastore, 1) ∧ decode cX10_put 77 = .ok (.return_, 1) := by decide +kernel
theorem S_X10_put {G : Kg} {σ : Kmem} {Q : Int → Kmem → Prop} {t l1 l2 : Int} (ht : isT t) (h : (rI (σ t 1)) ∧ ((σ t 1 = 0 → (rI (ki2b l2)) ∧ (0 ≤ l1 ∧ l1 < 60) ∧ Q 0 (kup σ (t + 1) l1 (ki2b l2))) ∧ (σ t 1 = 1 → (rI (ki2s l2)) ∧ (0 ≤ l1 ∧ l1 < 60) ∧ Q 0 (kup σ (t + 1) l1 (ki2s l2))) ∧ (σ t 1 = 2 → (0 ≤ l1 ∧ l1 < 60) ∧ Q 0 (kup σ (t + 1) l1 (ki2i l2))) ∧ (σ t 1 < 0 ∨ 2 < σ t 1 → (0 ≤ l1 ∧ l1 < 60) ∧ Q 0 (kup σ (t + 1) l1 l2)))) : Run G WX M_X10_put 0 0 0 [vA G t, vI l1, vL l2] σ Q := by
  refine Run.of (by decide +kernel) (by show (4 : Nat) ≤ 4; decide) ?_
  show Ex G WX M_X10_put 0 0 0 0 [(0, vA G t), (1, vI l1), (2, vL l2)] [] σ Q
  refine R_aload_n e_X10_put_0.1 0 rfl ?_
  refine R_getI 10 1 1 e_X10_put_0.2.1 f_X10_15 (kT_self ht) (fun _ _ => rfl) rfl ?_
  obtain ⟨q1, h⟩ := h
  by_cases t0 : σ t 1 = 0
  · refine R_tableIn 32 e_X10_put_0.2.2.1 q1 (by omega) (by omega) (off := 28) (by rw [t0]; rfl) (by decide) ?_
    replace h := h.1 t0
    refine R_aload_n e_X10_put_0.2.2.2.1 0 rfl ?_
    refine R_getA 10 3 (t + 1) e_X10_put_0.2.2.2.2.1 f_X10_22 (kT_self ht) (fun _ _ => rfl) (kT_r3 ht) (kT_n1 ht) ?_
    refine R_iload_n e_X10_put_0.2.2.2.2.2.1 1 rfl ?_
    refine R_lload_n e_X10_put_0.2.2.2.2.2.2.1 2 rfl ?_
    refine R_l2i e_X10_put_0.2.2.2.2.2.2.2.1 ?_
    refine R_i2b e_X10_put_0.2.2.2.2.2.2.2.2.1 ?_
    obtain ⟨q2, h⟩ := h
    refine R_i2l e_X10_put_0.2.2.2.2.2.2.2.2.2 q2 ?_
    obtain ⟨q3, h⟩ := h
    refine R_last 60 WX_ok e_X10_put_1.1 (kT_nums ht) q3 ?_
    refine R_goto 77 e_X10_put_1.2.1 (by decide) ?_
    exact R_return e_X10_put_3.2.2.2.2 rfl h
  by_cases t1 : σ t 1 = 1
  · refine R_tableIn 45 e_X10_put_0.2.2.1 q1 (by omega) (by omega) (off := 41) (by rw [t1]; rfl) (by decide) ?_
    replace h := h.2.1 t1
    refine R_aload_n e_X10_put_1.2.2.1 0 rfl ?_
    refine R_getA 10 3 (t + 1) e_X10_put_1.2.2.2.1 f_X10_22 (kT_self ht) (fun _ _ => rfl) (kT_r3 ht) (kT_n1 ht) ?_
    refine R_iload_n e_X10_put_1.2.2.2.2.1 1 rfl ?_
    refine R_lload_n e_X10_put_1.2.2.2.2.2.1 2 rfl ?_
    refine R_l2i e_X10_put_1.2.2.2.2.2.2.1 ?_
    refine R_i2s e_X10_put_1.2.2.2.2.2.2.2.1 ?_
    obtain ⟨q4, h⟩ := h
    refine R_i2l e_X10_put_1.2.2.2.2.2.2.2.2.1 q4 ?_
    obtain ⟨q5, h⟩ := h
    refine R_last 60 WX_ok e_X10_put_1.2.2.2.2.2.2.2.2.2 (kT_nums ht) q5 ?_
    refine R_goto 77 e_X10_put_2.1 (by decide) ?_
    exact R_return e_X10_put_3.2.2.2.2 rfl h
  by_cases t2 : σ t 1 = 2
  · refine R_tableIn 58 e_X10_put_0.2.2.1 q1 (by omega) (by omega) (off := 54) (by rw [t2]; rfl) (by decide) ?_
    replace h := h.2.2.1 t2
    refine R_aload_n e_X10_put_2.2.1 0 rfl ?_
    refine R_getA 10 3 (t + 1) e_X10_put_2.2.2.1 f_X10_22 (kT_self ht) (fun _ _ => rfl) (kT_r3 ht) (kT_n1 ht) ?_
    refine R_iload_n e_X10_put_2.2.2.2.1 1 rfl ?_
    refine R_lload_n e_X10_put_2.2.2.2.2.1 2 rfl ?_
    refine R_l2i e_X10_put_2.2.2.2.2.2.1 ?_
    refine R_eqs (st2 := [vI (ki2i l2), vI l1, vA G (t + 1)]) (by rw [← vI_ki2i]) rfl ?_
    refine R_i2l e_X10_put_2.2.2.2.2.2.2.1 (ki2i_r _) ?_
    obtain ⟨q6, h⟩ := h
    refine R_last 60 WX_ok e_X10_put_2.2.2.2.2.2.2.2.1 (kT_nums ht) q6 ?_
    refine R_goto 77 e_X10_put_2.2.2.2.2.2.2.2.2.1 (by decide) ?_
    exact R_return e_X10_put_3.2.2.2.2 rfl h
  refine R_tableOut 70 e_X10_put_0.2.2.1 q1 (by omega) (by decide) ?_
  replace h := h.2.2.2 (by omega)
  refine R_aload_n e_X10_put_2.2.2.2.2.2.2.2.2.2 0 rfl ?_
  refine R_getA 10 3 (t + 1) e_X10_put_3.1 f_X10_22 (kT_self ht) (fun _ _ => rfl) (kT_r3 ht) (kT_n1 ht) ?_
  refine R_iload_n e_X10_put_3.2.1 1 rfl ?_
  refine R_lload_n e_X10_put_3.2.2.1 2 rfl ?_
  obtain ⟨q7, h⟩ := h
  refine R_last 60 WX_ok e_X10_put_3.2.2.2.1 (kT_nums ht) q7 ?_
  exact R_return e_X10_put_3.2.2.2.2 rfl h
