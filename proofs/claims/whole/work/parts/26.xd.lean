/-! KiteLand.status()I -/
theorem e_X11_status_0 : decode cX11_status 0 = .ok (.aload_n 0, 1) ∧ decode cX11_status 1 = .ok (.getfield 9, 3) ∧ decode cX11_status 4 = .ok (.ireturn, 1) := by decide +kernel
theorem S_X11_status {G : Kg} {σ : Kmem} {Q : Int → Kmem → Prop}  (h : Q (σ 0 0) σ) : Run G WX M_X11_status 0 0 0 [vA G 0] σ Q := by
  refine Run.of (by decide +kernel) (by show (1 : Nat) ≤ 1; decide) ?_
  show Ex G WX M_X11_status 0 0 0 0 [(0, vA G 0)] [] σ Q
  refine R_aload_n e_X11_status_0.1 0 rfl ?_
  refine R_getI 11 0 0 e_X11_status_0.2.1 f_X11_9 kx_0 (fun _ _ => rfl) rfl ?_
  exact R_ireturn e_X11_status_0.2.2 rfl h
/-! KiteLand.top()J -/
theorem e_X11_top_0 : decode cX11_top 0 = .ok (.aload_n 0, 1) ∧ decode cX11_top 1 = .ok (.getfield 13, 3) ∧ decode cX11_top 4 = .ok (.lreturn, 1) := by decide +kernel
theorem S_X11_top {G : Kg} {σ : Kmem} {Q : Int → Kmem → Prop}  (h : Q (σ 0 1) σ) : Run G WX M_X11_top 0 0 0 [vA G 0] σ Q := by
  refine Run.of (by decide +kernel) (by show (1 : Nat) ≤ 1; decide) ?_
  show Ex G WX M_X11_top 0 0 0 0 [(0, vA G 0)] [] σ Q
  refine R_aload_n e_X11_top_0.1 0 rfl ?_
  refine R_getL 11 1 1 e_X11_top_0.2.1 f_X11_13 kx_0 (fun _ _ => rfl) rfl ?_
  exact R_lreturn e_X11_top_0.2.2 rfl h
/-! KiteLand.bottom()J -/
theorem e_X11_bottom_0 : decode cX11_bottom 0 = .ok (.aload_n 0, 1) ∧ decode cX11_bottom 1 = .ok (.getfield 17, 3) ∧ decode cX11_bottom 4 = .ok (.lreturn, 1) := by decide +kernel
theorem S_X11_bottom {G : Kg} {σ : Kmem} {Q : Int → Kmem → Prop}  (h : Q (σ 0 2) σ) : Run G WX M_X11_bottom 0 0 0 [vA G 0] σ Q := by
  refine Run.of (by decide +kernel) (by show (1 : Nat) ≤ 1; decide) ?_
  show Ex G WX M_X11_bottom 0 0 0 0 [(0, vA G 0)] [] σ Q
  refine R_aload_n e_X11_bottom_0.1 0 rfl ?_
  refine R_getL 11 2 2 e_X11_bottom_0.2.1 f_X11_17 kx_0 (fun _ _ => rfl) rfl ?_
  exact R_lreturn e_X11_bottom_0.2.2 rfl h
/-! KiteLand.tray(III)Z -/
theorem e_X11_tray_0 : decode cX11_tray 0 = .ok (.aload_n 0, 1) ∧ decode cX11_tray 1 = .ok (.iload_n 1, 1) ∧ decode cX11_tray 2 = .ok (.invokevirtual 109, 3) ∧ decode cX11_tray 5 = .ok (.ifCond .eq 22, 3) ∧ decode cX11_tray 8 = .ok (.iload_n 2, 1) ∧ decode cX11_tray 9 = .ok (.ifCond .lt 18, 3) ∧ decode cX11_tray 12 = .ok (.iload_n 2, 1) ∧ decode cX11_tray 13 = .ok (.iconst 3, 1) ∧ decode cX11_tray 14 = .ok (.if_icmp .gt 13, 3) ∧ decode cX11_tray 17 = .ok (.iload_n 3, 1) := by decide +kernel
theorem e_X11_tray_1 : decode cX11_tray 18 = .ok (.ifCond .lt 9, 3) ∧ decode cX11_tray 21 = .ok (.iload_n 3, 1) ∧ decode cX11_tray 22 = .ok (.bipush 60, 2) ∧ decode cX11_tray 24 = .ok (.if_icmp .le 9, 3) ∧ decode cX11_tray 27 = .ok (.aload_n 0, 1) ∧ decode cX11_tray 28 = .ok (.iconst 1, 1) ∧ decode cX11_tray 29 = .ok (.invokevirtual 113, 3) ∧ decode cX11_tray 32 = .ok (.ireturn, 1) ∧ decode cX11_tray 33 = .ok (.aload_n 0, 1) ∧ decode cX11_tray 34 = .ok (.getfield 22, 3) := by decide +kernel
theorem e_X11_tray_2 : decode cX11_tray 37 = .ok (.iload_n 1, 1) ∧ decode cX11_tray 38 = .ok (.aaload, 1) ∧ decode cX11_tray 39 = .ok (.iload_n 2, 1) ∧ decode cX11_tray 40 = .ok (.iload_n 3, 1) ∧ decode cX11_tray 41 = .ok (.invokevirtual 116, 3) ∧ decode cX11_tray 44 = .ok (.aload_n 0, 1) ∧ decode cX11_tray 45 = .ok (.invokevirtual 120, 3) ∧ decode cX11_tray 48 = .ok (.ireturn, 1) := by decide +kernel
theorem S_X11_tray {G : Kg} {σ : Kmem} {Q : Int → Kmem → Prop} {l1 l2 l3 : Int}  (h : Run G WX M_X11_isTray 0 0 0 [vA G 0, vI l1] σ (fun r1 s2 => (rI r1) ∧ ((r1 = 0 → Run G WX M_X11_refuse 0 0 0 [vA G 0, vI 1] s2 (fun r4 s5 => (r4 = 0 ∨ r4 = 1) ∧ Q r4 s5)) ∧ (r1 ≠ 0 → (rI l2) ∧ ((l2 < 0 → Run G WX M_X11_refuse 0 0 0 [vA G 0, vI 1] s2 (fun r8 s9 => (r8 = 0 ∨ r8 = 1) ∧ Q r8 s9)) ∧ (0 ≤ l2 → ((3 < l2 → Run G WX M_X11_refuse 0 0 0 [vA G 0, vI 1] s2 (fun r11 s12 => (r11 = 0 ∨ r11 = 1) ∧ Q r11 s12)) ∧ (l2 ≤ 3 → (rI l3) ∧ ((l3 < 0 → Run G WX M_X11_refuse 0 0 0 [vA G 0, vI 1] s2 (fun r15 s16 => (r15 = 0 ∨ r15 = 1) ∧ Q r15 s16)) ∧ (0 ≤ l3 → ((l3 ≤ 60 → (0 ≤ l1 ∧ l1 < 4) ∧ Run G WX M_X10_make 0 0 0 [vA G (adT l1), vI l2, vI l3] s2 (fun r19 s20 => Run G WX M_X11_grant 0 0 0 [vA G 0] s20 (fun r21 s22 => (r21 = 0 ∨ r21 = 1) ∧ Q r21 s22))) ∧ (60 < l3 → Run G WX M_X11_refuse 0 0 0 [vA G 0, vI 1] s2 (fun r24 s25 => (r24 = 0 ∨ r24 = 1) ∧ Q r24 s25))))))))))))) : Run G WX M_X11_tray 1 0 0 [vA G 0, vI l1, vI l2, vI l3] σ Q := by
  refine Run.of (by decide +kernel) (by show (4 : Nat) ≤ 4; decide) ?_
  show Ex G WX M_X11_tray 1 0 0 0 [(0, vA G 0), (1, vI l1), (2, vI l2), (3, vI l3)] [] σ Q
  refine R_aload_n e_X11_tray_0.1 0 rfl ?_
  refine R_iload_n e_X11_tray_0.2.1 1 rfl ?_
  refine R_callV (mc := 0) (ms := 0) (mc' := 0) (ms' := 0) (M' := M_X11_isTray) (d' := 0) (as := [vI l1]) (st := []) 11 1 e_X11_tray_0.2.2.1 (kCVof m_X11_isTray l_X11_109) rfl (by decide) kx_0 (by decide) (by decide) rfl rfl (by show (0 : Nat) ≤ 8; decide) ?_
  refine Run.mono h (fun r1 s2 h => ?_)
  refine R_eqs (st2 := [vI r1]) rfl rfl ?_
  obtain ⟨q3, h⟩ := h
  refine R_if_eq 27 e_X11_tray_0.2.2.2.1 (by decide) q3  (fun q => ?_) (fun q => ?_)
  · replace h := h.1 q
    refine R_aload_n e_X11_tray_1.2.2.2.2.1 0 rfl ?_
    refine R_iconst e_X11_tray_1.2.2.2.2.2.1 ?_
    refine R_callV (mc := 0) (ms := 0) (mc' := 0) (ms' := 0) (M' := M_X11_refuse) (d' := 0) (as := [vI 1]) (st := []) 11 1 e_X11_tray_1.2.2.2.2.2.2.1 (kCVof m_X11_refuse l_X11_113) rfl (by decide) kx_0 (by decide) (by decide) rfl rfl (by show (0 : Nat) ≤ 8; decide) ?_
    refine Run.mono h (fun r4 s5 h => ?_)
    refine R_eqs (st2 := [vI r4]) rfl rfl ?_
    obtain ⟨q6, h⟩ := h
    exact R_zreturn e_X11_tray_1.2.2.2.2.2.2.2.1 rfl q6 h
  · replace h := h.2 q
    refine R_iload_n e_X11_tray_0.2.2.2.2.1 2 rfl ?_
    obtain ⟨q7, h⟩ := h
    refine R_if_lt 27 e_X11_tray_0.2.2.2.2.2.1 (by decide) q7  (fun q => ?_) (fun q => ?_)
    · replace h := h.1 q
      refine R_aload_n e_X11_tray_1.2.2.2.2.1 0 rfl ?_
      refine R_iconst e_X11_tray_1.2.2.2.2.2.1 ?_
      refine R_callV (mc := 0) (ms := 0) (mc' := 0) (ms' := 0) (M' := M_X11_refuse) (d' := 0) (as := [vI 1]) (st := []) 11 1 e_X11_tray_1.2.2.2.2.2.2.1 (kCVof m_X11_refuse l_X11_113) rfl (by decide) kx_0 (by decide) (by decide) rfl rfl (by show (0 : Nat) ≤ 8; decide) ?_
      refine Run.mono h (fun r8 s9 h => ?_)
      refine R_eqs (st2 := [vI r8]) rfl rfl ?_
      obtain ⟨q10, h⟩ := h
      exact R_zreturn e_X11_tray_1.2.2.2.2.2.2.2.1 rfl q10 h
    · replace h := h.2 q
      refine R_iload_n e_X11_tray_0.2.2.2.2.2.2.1 2 rfl ?_
      refine R_iconst e_X11_tray_0.2.2.2.2.2.2.2.1 ?_
      refine R_icmp_gt 27 e_X11_tray_0.2.2.2.2.2.2.2.2.1 (by decide) q7 (by decide) (fun q => ?_) (fun q => ?_)
      · replace h := h.1 q
        refine R_aload_n e_X11_tray_1.2.2.2.2.1 0 rfl ?_
        refine R_iconst e_X11_tray_1.2.2.2.2.2.1 ?_
        refine R_callV (mc := 0) (ms := 0) (mc' := 0) (ms' := 0) (M' := M_X11_refuse) (d' := 0) (as := [vI 1]) (st := []) 11 1 e_X11_tray_1.2.2.2.2.2.2.1 (kCVof m_X11_refuse l_X11_113) rfl (by decide) kx_0 (by decide) (by decide) rfl rfl (by show (0 : Nat) ≤ 8; decide) ?_
        refine Run.mono h (fun r11 s12 h => ?_)
        refine R_eqs (st2 := [vI r11]) rfl rfl ?_
        obtain ⟨q13, h⟩ := h
        exact R_zreturn e_X11_tray_1.2.2.2.2.2.2.2.1 rfl q13 h
      · replace h := h.2 q
        refine R_iload_n e_X11_tray_0.2.2.2.2.2.2.2.2.2 3 rfl ?_
        obtain ⟨q14, h⟩ := h
        refine R_if_lt 27 e_X11_tray_1.1 (by decide) q14  (fun q => ?_) (fun q => ?_)
        · replace h := h.1 q
          refine R_aload_n e_X11_tray_1.2.2.2.2.1 0 rfl ?_
          refine R_iconst e_X11_tray_1.2.2.2.2.2.1 ?_
          refine R_callV (mc := 0) (ms := 0) (mc' := 0) (ms' := 0) (M' := M_X11_refuse) (d' := 0) (as := [vI 1]) (st := []) 11 1 e_X11_tray_1.2.2.2.2.2.2.1 (kCVof m_X11_refuse l_X11_113) rfl (by decide) kx_0 (by decide) (by decide) rfl rfl (by show (0 : Nat) ≤ 8; decide) ?_
          refine Run.mono h (fun r15 s16 h => ?_)
          refine R_eqs (st2 := [vI r15]) rfl rfl ?_
          obtain ⟨q17, h⟩ := h
          exact R_zreturn e_X11_tray_1.2.2.2.2.2.2.2.1 rfl q17 h
        · replace h := h.2 q
          refine R_iload_n e_X11_tray_1.2.1 3 rfl ?_
          refine R_bipush e_X11_tray_1.2.2.1 (by decide) ?_
          refine R_icmp_le 33 e_X11_tray_1.2.2.2.1 (by decide) q14 (by decide) (fun q => ?_) (fun q => ?_)
          · replace h := h.1 q
            refine R_aload_n e_X11_tray_1.2.2.2.2.2.2.2.2.1 0 rfl ?_
            refine R_getA 11 3 1 e_X11_tray_1.2.2.2.2.2.2.2.2.2 f_X11_22 kx_0 (fun _ _ => rfl) rx_0_3 (by decide) ?_
            refine R_iload_n e_X11_tray_2.1 1 rfl ?_
            obtain ⟨q18, h⟩ := h
            refine R_aald 24 4 (adT l1) e_X11_tray_2.2.1 (by decide) kxa_1 q18 (adT_at q18) (adT_n q18) ?_
            refine R_iload_n e_X11_tray_2.2.2.1 2 rfl ?_
            refine R_iload_n e_X11_tray_2.2.2.2.1 3 rfl ?_
            refine R_callV (mc := 0) (ms := 0) (mc' := 0) (ms' := 0) (M' := M_X10_make) (d' := 0) (as := [vI l2, vI l3]) (st := []) 10 2 e_X11_tray_2.2.2.2.2.1 (kCVof m_X10_make l_X11_116) rfl (by decide) (kT_self (adT_is q18)) (by decide) (by decide) rfl rfl (by show (0 : Nat) ≤ 8; decide) ?_
            refine Run.mono h (fun r19 s20 h => ?_)
            refine R_eqs (st2 := []) rfl rfl ?_
            refine R_aload_n e_X11_tray_2.2.2.2.2.2.1 0 rfl ?_
            refine R_callV (mc := 0) (ms := 0) (mc' := 0) (ms' := 0) (M' := M_X11_grant) (d' := 0) (as := []) (st := []) 11 0 e_X11_tray_2.2.2.2.2.2.2.1 (kCVof m_X11_grant l_X11_120) rfl (by decide) kx_0 (by decide) (by decide) rfl rfl (by show (0 : Nat) ≤ 8; decide) ?_
            refine Run.mono h (fun r21 s22 h => ?_)
            refine R_eqs (st2 := [vI r21]) rfl rfl ?_
            obtain ⟨q23, h⟩ := h
            exact R_zreturn e_X11_tray_2.2.2.2.2.2.2.2 rfl q23 h
          · replace h := h.2 q
            refine R_aload_n e_X11_tray_1.2.2.2.2.1 0 rfl ?_
            refine R_iconst e_X11_tray_1.2.2.2.2.2.1 ?_
            refine R_callV (mc := 0) (ms := 0) (mc' := 0) (ms' := 0) (M' := M_X11_refuse) (d' := 0) (as := [vI 1]) (st := []) 11 1 e_X11_tray_1.2.2.2.2.2.2.1 (kCVof m_X11_refuse l_X11_113) rfl (by decide) kx_0 (by decide) (by decide) rfl rfl (by show (0 : Nat) ≤ 8; decide) ?_
            refine Run.mono h (fun r24 s25 h => ?_)
            refine R_eqs (st2 := [vI r24]) rfl rfl ?_
            obtain ⟨q26, h⟩ := h
            exact R_zreturn e_X11_tray_1.2.2.2.2.2.2.2.1 rfl q26 h
/-! KiteLand.write(IIJ)Z -/
theorem e_X11_write_0 : decode cX11_write 0 = .ok (.aload_n 0, 1) ∧ decode cX11_write 1 = .ok (.iload_n 1, 1) ∧ decode cX11_write 2 = .ok (.iload_n 2, 1) ∧ decode cX11_write 3 = .ok (.invokevirtual 124, 3) ∧ decode cX11_write 6 = .ok (.istore 5, 2) ∧ decode cX11_write 8 = .ok (.iload 5, 2) ∧ decode cX11_write 10 = .ok (.ifCond .eq 10, 3) ∧ decode cX11_write 13 = .ok (.aload_n 0, 1) ∧ decode cX11_write 14 = .ok (.iload 5, 2) ∧ decode cX11_write 16 = .ok (.invokevirtual 113, 3) := by decide +kernel
theorem e_X11_write_1 : decode cX11_write 19 = .ok (.ireturn, 1) ∧ decode cX11_write 20 = .ok (.aload_n 0, 1) ∧ decode cX11_write 21 = .ok (.getfield 22, 3) ∧ decode cX11_write 24 = .ok (.iload_n 1, 1) ∧ decode cX11_write 25 = .ok (.aaload, 1) ∧ decode cX11_write 26 = .ok (.iload_n 2, 1) ∧ decode cX11_write 27 = .ok (.lload_n 3, 1) ∧ decode cX11_write 28 = .ok (.invokevirtual 128, 3) ∧ decode cX11_write 31 = .ok (.aload_n 0, 1) ∧ decode cX11_write 32 = .ok (.invokevirtual 120, 3) := by decide +kernel
theorem e_X11_write_2 : decode cX11_write 35 = .ok (.ireturn, 1) := by decide +kernel
theorem S_X11_write {G : Kg} {σ : Kmem} {Q : Int → Kmem → Prop} {l1 l2 l3 : Int}  (h : Run G WX M_X11_placeStatus 1 0 0 [vA G 0, vI l1, vI l2] σ (fun r1 s2 => (rI r1) ∧ ((r1 = 0 → (0 ≤ l1 ∧ l1 < 4) ∧ Run G WX M_X10_put 0 0 0 [vA G (adT l1), vI l2, vL l3] s2 (fun r5 s6 => Run G WX M_X11_grant 0 0 0 [vA G 0] s6 (fun r7 s8 => (r7 = 0 ∨ r7 = 1) ∧ Q r7 s8))) ∧ (r1 ≠ 0 → Run G WX M_X11_refuse 0 0 0 [vA G 0, vI r1] s2 (fun r10 s11 => (r10 = 0 ∨ r10 = 1) ∧ Q r10 s11))))) : Run G WX M_X11_write 2 0 0 [vA G 0, vI l1, vI l2, vL l3] σ Q := by
  refine Run.of (by decide +kernel) (by show (5 : Nat) ≤ 6; decide) ?_
  show Ex G WX M_X11_write 2 0 0 0 [(0, vA G 0), (1, vI l1), (2, vI l2), (3, vL l3)] [] σ Q
  refine R_aload_n e_X11_write_0.1 0 rfl ?_
  refine R_iload_n e_X11_write_0.2.1 1 rfl ?_
  refine R_iload_n e_X11_write_0.2.2.1 2 rfl ?_
  refine R_callV (mc := 0) (ms := 0) (mc' := 0) (ms' := 0) (M' := M_X11_placeStatus) (d' := 1) (as := [vI l1, vI l2]) (st := []) 11 2 e_X11_write_0.2.2.2.1 (kCVof m_X11_placeStatus l_X11_124) rfl (by decide) kx_0 (by decide) (by decide) rfl rfl (by show (0 : Nat) ≤ 8; decide) ?_
  refine Run.mono h (fun r1 s2 h => ?_)
  refine R_eqs (st2 := [vI r1]) rfl rfl ?_
  refine R_istore (ls2 := [(5, vI r1), (0, vA G 0), (1, vI l1), (2, vI l2), (3, vL l3)]) e_X11_write_0.2.2.2.2.1 (by decide) rfl ?_
  refine R_iload e_X11_write_0.2.2.2.2.2.1 0 rfl ?_
  obtain ⟨q3, h⟩ := h
  refine R_if_eq 20 e_X11_write_0.2.2.2.2.2.2.1 (by decide) q3  (fun q => ?_) (fun q => ?_)
  · replace h := h.1 q
    refine R_aload_n e_X11_write_1.2.1 1 rfl ?_
    refine R_getA 11 3 1 e_X11_write_1.2.2.1 f_X11_22 kx_0 (fun _ _ => rfl) rx_0_3 (by decide) ?_
    refine R_iload_n e_X11_write_1.2.2.2.1 2 rfl ?_
    obtain ⟨q4, h⟩ := h
    refine R_aald 24 4 (adT l1) e_X11_write_1.2.2.2.2.1 (by decide) kxa_1 q4 (adT_at q4) (adT_n q4) ?_
    refine R_iload_n e_X11_write_1.2.2.2.2.2.1 3 rfl ?_
    refine R_lload_n e_X11_write_1.2.2.2.2.2.2.1 4 rfl ?_
    refine R_callV (mc := 0) (ms := 0) (mc' := 0) (ms' := 0) (M' := M_X10_put) (d' := 0) (as := [vI l2, vL l3]) (st := []) 10 2 e_X11_write_1.2.2.2.2.2.2.2.1 (kCVof m_X10_put l_X11_128) rfl (by decide) (kT_self (adT_is q4)) (by decide) (by decide) rfl rfl (by show (0 : Nat) ≤ 8; decide) ?_
    refine Run.mono h (fun r5 s6 h => ?_)
    refine R_eqs (st2 := []) rfl rfl ?_
    refine R_aload_n e_X11_write_1.2.2.2.2.2.2.2.2.1 1 rfl ?_
    refine R_callV (mc := 0) (ms := 0) (mc' := 0) (ms' := 0) (M' := M_X11_grant) (d' := 0) (as := []) (st := []) 11 0 e_X11_write_1.2.2.2.2.2.2.2.2.2 (kCVof m_X11_grant l_X11_120) rfl (by decide) kx_0 (by decide) (by decide) rfl rfl (by show (0 : Nat) ≤ 8; decide) ?_
    refine Run.mono h (fun r7 s8 h => ?_)
    refine R_eqs (st2 := [vI r7]) rfl rfl ?_
    obtain ⟨q9, h⟩ := h
    exact R_zreturn e_X11_write_2 rfl q9 h
  · replace h := h.2 q
    refine R_aload_n e_X11_write_0.2.2.2.2.2.2.2.1 1 rfl ?_
    refine R_iload e_X11_write_0.2.2.2.2.2.2.2.2.1 0 rfl ?_
    refine R_callV (mc := 0) (ms := 0) (mc' := 0) (ms' := 0) (M' := M_X11_refuse) (d' := 0) (as := [vI r1]) (st := []) 11 1 e_X11_write_0.2.2.2.2.2.2.2.2.2 (kCVof m_X11_refuse l_X11_113) rfl (by decide) kx_0 (by decide) (by decide) rfl rfl (by show (0 : Nat) ≤ 8; decide) ?_
    refine Run.mono h (fun r10 s11 h => ?_)
    refine R_eqs (st2 := [vI r10]) rfl rfl ?_
    obtain ⟨q12, h⟩ := h
    exact R_zreturn e_X11_write_1.1 rfl q12 h
/-! KiteLand.read(II)J -/
theorem e_X11_read_0 : decode cX11_read 0 = .ok (.aload_n 0, 1) ∧ decode cX11_read 1 = .ok (.iload_n 1, 1) ∧ decode cX11_read 2 = .ok (.iload_n 2, 1) ∧ decode cX11_read 3 = .ok (.invokevirtual 124, 3) ∧ decode cX11_read 6 = .ok (.istore_n 3, 1) ∧ decode cX11_read 7 = .ok (.iload_n 3, 1) ∧ decode cX11_read 8 = .ok (.ifCond .eq 10, 3) ∧ decode cX11_read 11 = .ok (.aload_n 0, 1) ∧ decode cX11_read 12 = .ok (.iload_n 3, 1) ∧ decode cX11_read 13 = .ok (.invokevirtual 132, 3) := by decide +kernel
theorem e_X11_read_1 : decode cX11_read 16 = .ok (.i2l, 1) ∧ decode cX11_read 17 = .ok (.lreturn, 1) ∧ decode cX11_read 18 = .ok (.aload_n 0, 1) ∧ decode cX11_read 19 = .ok (.iconst 0, 1) ∧ decode cX11_read 20 = .ok (.putfield 9, 3) ∧ decode cX11_read 23 = .ok (.aload_n 0, 1) ∧ decode cX11_read 24 = .ok (.getfield 22, 3) ∧ decode cX11_read 27 = .ok (.iload_n 1, 1) ∧ decode cX11_read 28 = .ok (.aaload, 1) ∧ decode cX11_read 29 = .ok (.getfield 136, 3) := by decide +kernel
theorem e_X11_read_2 : decode cX11_read 32 = .ok (.iload_n 2, 1) ∧ decode cX11_read 33 = .ok (.laload, 1) ∧ decode cX11_read 34 = .ok (.lreturn, 1) := by decide +kernel
theorem S_X11_read {G : Kg} {σ : Kmem} {Q : Int → Kmem → Prop} {l1 l2 : Int}  (h : Run G WX M_X11_placeStatus 1 0 0 [vA G 0, vI l1, vI l2] σ (fun r1 s2 => (rI r1) ∧ ((r1 = 0 → (0 ≤ l1 ∧ l1 < 4) ∧ (0 ≤ l2 ∧ l2 < 60) ∧ Q ((kup s2 0 0 0) (adT l1 + 1) l2) (kup s2 0 0 0)) ∧ (r1 ≠ 0 → Run G WX M_X11_deny 0 0 0 [vA G 0, vI r1] s2 (fun r6 s7 => (rI r6) ∧ Q r6 s7))))) : Run G WX M_X11_read 2 0 0 [vA G 0, vI l1, vI l2] σ Q := by
  refine Run.of (by decide +kernel) (by show (3 : Nat) ≤ 4; decide) ?_
  show Ex G WX M_X11_read 2 0 0 0 [(0, vA G 0), (1, vI l1), (2, vI l2)] [] σ Q
  refine R_aload_n e_X11_read_0.1 0 rfl ?_
  refine R_iload_n e_X11_read_0.2.1 1 rfl ?_
  refine R_iload_n e_X11_read_0.2.2.1 2 rfl ?_
  refine R_callV (mc := 0) (ms := 0) (mc' := 0) (ms' := 0) (M' := M_X11_placeStatus) (d' := 1) (as := [vI l1, vI l2]) (st := []) 11 2 e_X11_read_0.2.2.2.1 (kCVof m_X11_placeStatus l_X11_124) rfl (by decide) kx_0 (by decide) (by decide) rfl rfl (by show (0 : Nat) ≤ 8; decide) ?_
  refine Run.mono h (fun r1 s2 h => ?_)
  refine R_eqs (st2 := [vI r1]) rfl rfl ?_
  refine R_istore_n (ls2 := [(3, vI r1), (0, vA G 0), (1, vI l1), (2, vI l2)]) e_X11_read_0.2.2.2.2.1 (by decide) rfl ?_
  refine R_iload_n e_X11_read_0.2.2.2.2.2.1 0 rfl ?_
  obtain ⟨q3, h⟩ := h
  refine R_if_eq 18 e_X11_read_0.2.2.2.2.2.2.1 (by decide) q3  (fun q => ?_) (fun q => ?_)
  · replace h := h.1 q
    refine R_aload_n e_X11_read_1.2.2.1 1 rfl ?_
    refine R_iconst e_X11_read_1.2.2.2.1 ?_
    refine R_putI 11 0 0 WX_ok e_X11_read_1.2.2.2.2.1 f_X11_9 kx_0 rfl rfl rfl ?_
    refine R_aload_n e_X11_read_1.2.2.2.2.2.1 1 rfl ?_
    refine R_getA 11 3 1 e_X11_read_1.2.2.2.2.2.2.1 f_X11_22 kx_0 (fun _ _ => rfl) rx_0_3 (by decide) ?_
    refine R_iload_n e_X11_read_1.2.2.2.2.2.2.2.1 2 rfl ?_
    obtain ⟨q4, h⟩ := h
    refine R_aald 24 4 (adT l1) e_X11_read_1.2.2.2.2.2.2.2.2.1 (by decide) kxa_1 q4 (adT_at q4) (adT_n q4) ?_
    refine R_getA 10 3 (adT l1 + 1) e_X11_read_1.2.2.2.2.2.2.2.2.2 f_X11_136 (kT_self (adT_is q4)) (fun _ _ => rfl) (kT_r3 (adT_is q4)) (kT_n1 (adT_is q4)) ?_
    refine R_iload_n e_X11_read_2.1 3 rfl ?_
    obtain ⟨q5, h⟩ := h
    refine R_lald 60 e_X11_read_2.2.1 (kT_nums (adT_is q4)) q5 ?_
    exact R_lreturn e_X11_read_2.2.2 rfl h
  · replace h := h.2 q
    refine R_aload_n e_X11_read_0.2.2.2.2.2.2.2.1 1 rfl ?_
    refine R_iload_n e_X11_read_0.2.2.2.2.2.2.2.2.1 0 rfl ?_
    refine R_callV (mc := 0) (ms := 0) (mc' := 0) (ms' := 0) (M' := M_X11_deny) (d' := 0) (as := [vI r1]) (st := []) 11 1 e_X11_read_0.2.2.2.2.2.2.2.2.2 (kCVof m_X11_deny l_X11_132) rfl (by decide) kx_0 (by decide) (by decide) rfl rfl (by show (0 : Nat) ≤ 8; decide) ?_
    refine Run.mono h (fun r6 s7 h => ?_)
    refine R_eqs (st2 := [vI r6]) rfl rfl ?_
    obtain ⟨q8, h⟩ := h
    refine R_i2l e_X11_read_1.1 q8 ?_
    exact R_lreturn e_X11_read_1.2.1 rfl h
/-! KiteLand.pour(IIIII)Z -/
theorem e_X11_pour_0 : decode cX11_pour 0 = .ok (.aload_n 0, 1) ∧ decode cX11_pour 1 = .ok (.iload_n 1, 1) ∧ decode cX11_pour 2 = .ok (.invokevirtual 109, 3) ∧ decode cX11_pour 5 = .ok (.ifCond .eq 25, 3) ∧ decode cX11_pour 8 = .ok (.aload_n 0, 1) ∧ decode cX11_pour 9 = .ok (.iload_n 3, 1) ∧ decode cX11_pour 10 = .ok (.invokevirtual 109, 3) ∧ decode cX11_pour 13 = .ok (.ifCond .eq 17, 3) ∧ decode cX11_pour 16 = .ok (.iload_n 2, 1) ∧ decode cX11_pour 17 = .ok (.ifCond .lt 13, 3) := by decide +kernel
theorem e_X11_pour_1 : decode cX11_pour 20 = .ok (.iload 4, 2) ∧ decode cX11_pour 22 = .ok (.ifCond .lt 8, 3) ∧ decode cX11_pour 25 = .ok (.iload 5, 2) ∧ decode cX11_pour 27 = .ok (.ifCond .ge 9, 3) ∧ decode cX11_pour 30 = .ok (.aload_n 0, 1) ∧ decode cX11_pour 31 = .ok (.iconst 1, 1) ∧ decode cX11_pour 32 = .ok (.invokevirtual 113, 3) ∧ decode cX11_pour 35 = .ok (.ireturn, 1) ∧ decode cX11_pour 36 = .ok (.aload_n 0, 1) ∧ decode cX11_pour 37 = .ok (.getfield 22, 3) := by decide +kernel
theorem e_X11_pour_2 : decode cX11_pour 40 = .ok (.iload_n 1, 1) ∧ decode cX11_pour 41 = .ok (.aaload, 1) ∧ decode cX11_pour 42 = .ok (.astore 6, 2) ∧ decode cX11_pour 44 = .ok (.aload_n 0, 1) ∧ decode cX11_pour 45 = .ok (.getfield 22, 3) ∧ decode cX11_pour 48 = .ok (.iload_n 3, 1) ∧ decode cX11_pour 49 = .ok (.aaload, 1) ∧ decode cX11_pour 50 = .ok (.astore 7, 2) ∧ decode cX11_pour 52 = .ok (.aload 6, 2) ∧ decode cX11_pour 54 = .ok (.getfield 140, 3) := by decide +kernel
theorem e_X11_pour_3 : decode cX11_pour 57 = .ok (.ifCond .eq 11, 3) ∧ decode cX11_pour 60 = .ok (.aload 7, 2) ∧ decode cX11_pour 62 = .ok (.getfield 140, 3) ∧ decode cX11_pour 65 = .ok (.ifCond .ne 9, 3) ∧ decode cX11_pour 68 = .ok (.aload_n 0, 1) ∧ decode cX11_pour 69 = .ok (.iconst 2, 1) ∧ decode cX11_pour 70 = .ok (.invokevirtual 113, 3) ∧ decode cX11_pour 73 = .ok (.ireturn, 1) ∧ decode cX11_pour 74 = .ok (.aload 6, 2) ∧ decode cX11_pour 76 = .ok (.getfield 144, 3) := by decide +kernel
theorem e_X11_pour_4 : decode cX11_pour 79 = .ok (.aload 7, 2) ∧ decode cX11_pour 81 = .ok (.getfield 144, 3) ∧ decode cX11_pour 84 = .ok (.if_icmp .eq 10, 3) ∧ decode cX11_pour 87 = .ok (.aload_n 0, 1) ∧ decode cX11_pour 88 = .ok (.bipush 8, 2) ∧ decode cX11_pour 90 = .ok (.invokevirtual 113, 3) ∧ decode cX11_pour 93 = .ok (.ireturn, 1) ∧ decode cX11_pour 94 = .ok (.iload 5, 2) ∧ decode cX11_pour 96 = .ok (.aload 6, 2) ∧ decode cX11_pour 98 = .ok (.getfield 147, 3) := by decide +kernel
theorem e_X11_pour_5 : decode cX11_pour 101 = .ok (.iload_n 2, 1) ∧ decode cX11_pour 102 = .ok (.isub, 1) ∧ decode cX11_pour 103 = .ok (.if_icmp .gt 16, 3) ∧ decode cX11_pour 106 = .ok (.iload 5, 2) ∧ decode cX11_pour 108 = .ok (.aload 7, 2) ∧ decode cX11_pour 110 = .ok (.getfield 147, 3) ∧ decode cX11_pour 113 = .ok (.iload 4, 2) ∧ decode cX11_pour 115 = .ok (.isub, 1) ∧ decode cX11_pour 116 = .ok (.if_icmp .le 9, 3) ∧ decode cX11_pour 119 = .ok (.aload_n 0, 1) := by decide +kernel
theorem e_X11_pour_6 : decode cX11_pour 120 = .ok (.iconst 3, 1) ∧ decode cX11_pour 121 = .ok (.invokevirtual 113, 3) ∧ decode cX11_pour 124 = .ok (.ireturn, 1) ∧ decode cX11_pour 125 = .ok (.aload 6, 2) ∧ decode cX11_pour 127 = .ok (.getfield 136, 3) ∧ decode cX11_pour 130 = .ok (.iload_n 2, 1) ∧ decode cX11_pour 131 = .ok (.aload 7, 2) ∧ decode cX11_pour 133 = .ok (.getfield 136, 3) ∧ decode cX11_pour 136 = .ok (.iload 4, 2) ∧ decode cX11_pour 138 = .ok (.iload 5, 2) := by decide +kernel
theorem e_X11_pour_7 : decode cX11_pour 140 = .ok (.invokestatic 150, 3) ∧ decode cX11_pour 143 = .ok (.aload_n 0, 1) ∧ decode cX11_pour 144 = .ok (.invokevirtual 120, 3) ∧ decode cX11_pour 147 = .ok (.ireturn, 1) := by decide +kernel
theorem S_X11_pour {G : Kg} {σ : Kmem} {Q : Int → Kmem → Prop} {l1 l2 l3 l4 l5 : Int}  (h : Run G WX M_X11_isTray 0 0 0 [vA G 0, vI l1] σ (fun r1 s2 => (rI r1) ∧ ((r1 = 0 → Run G WX M_X11_refuse 0 0 0 [vA G 0, vI 1] s2 (fun r4 s5 => (r4 = 0 ∨ r4 = 1) ∧ Q r4 s5)) ∧ (r1 ≠ 0 → Run G WX M_X11_isTray 0 0 0 [vA G 0, vI l3] s2 (fun r7 s8 => (rI r7) ∧ ((r7 = 0 → Run G WX M_X11_refuse 0 0 0 [vA G 0, vI 1] s8 (fun r10 s11 => (r10 = 0 ∨ r10 = 1) ∧ Q r10 s11)) ∧ (r7 ≠ 0 → (rI l2) ∧ ((l2 < 0 → Run G WX M_X11_refuse 0 0 0 [vA G 0, vI 1] s8 (fun r14 s15 => (r14 = 0 ∨ r14 = 1) ∧ Q r14 s15)) ∧ (0 ≤ l2 → (rI l4) ∧ ((l4 < 0 → Run G WX M_X11_refuse 0 0 0 [vA G 0, vI 1] s8 (fun r18 s19 => (r18 = 0 ∨ r18 = 1) ∧ Q r18 s19)) ∧ (0 ≤ l4 → (rI l5) ∧ ((0 ≤ l5 → (0 ≤ l1 ∧ l1 < 4) ∧ (0 ≤ l3 ∧ l3 < 4) ∧ (rI (s8 (adT l1) 0)) ∧ ((s8 (adT l1) 0 = 0 → Run G WX M_X11_refuse 0 0 0 [vA G 0, vI 2] s8 (fun r25 s26 => (r25 = 0 ∨ r25 = 1) ∧ Q r25 s26)) ∧ (s8 (adT l1) 0 ≠ 0 → (rI (s8 (adT l3) 0)) ∧ ((s8 (adT l3) 0 ≠ 0 → (rI (s8 (adT l1) 1)) ∧ (rI (s8 (adT l3) 1)) ∧ ((s8 (adT l1) 1 = s8 (adT l3) 1 → (rI ((s8 (adT l1) 2) - l2)) ∧ (((s8 (adT l1) 2) - l2 < l5 → Run G WX M_X11_refuse 0 0 0 [vA G 0, vI 3] s8 (fun r32 s33 => (r32 = 0 ∨ r32 = 1) ∧ Q r32 s33)) ∧ (l5 ≤ (s8 (adT l1) 2) - l2 → (rI ((s8 (adT l3) 2) - l4)) ∧ ((l5 ≤ (s8 (adT l3) 2) - l4 → (((0 : Int) ≤ l2 ∧ (0 : Int) ≤ l4 ∧ (0 : Int) ≤ l5) ∧ (l2 : Int) + l5 ≤ 60 ∧ (l4 : Int) + l5 ≤ 60) ∧ Run G WX M_X11_grant 0 0 0 [vA G 0] (kcpy s8 (adT l1 + 1) l2 (adT l3 + 1) l4 l5) (fun r37 s38 => (r37 = 0 ∨ r37 = 1) ∧ Q r37 s38)) ∧ ((s8 (adT l3) 2) - l4 < l5 → Run G WX M_X11_refuse 0 0 0 [vA G 0, vI 3] s8 (fun r40 s41 => (r40 = 0 ∨ r40 = 1) ∧ Q r40 s41)))))) ∧ (s8 (adT l1) 1 ≠ s8 (adT l3) 1 → Run G WX M_X11_refuse 0 0 0 [vA G 0, vI 8] s8 (fun r43 s44 => (r43 = 0 ∨ r43 = 1) ∧ Q r43 s44)))) ∧ (s8 (adT l3) 0 = 0 → Run G WX M_X11_refuse 0 0 0 [vA G 0, vI 2] s8 (fun r46 s47 => (r46 = 0 ∨ r46 = 1) ∧ Q r46 s47)))))) ∧ (l5 < 0 → Run G WX M_X11_refuse 0 0 0 [vA G 0, vI 1] s8 (fun r49 s50 => (r49 = 0 ∨ r49 = 1) ∧ Q r49 s50)))))))))))))) : Run G WX M_X11_pour 1 0 0 [vA G 0, vI l1, vI l2, vI l3, vI l4, vI l5] σ Q := by
  refine Run.of (by decide +kernel) (by show (6 : Nat) ≤ 8; decide) ?_
  show Ex G WX M_X11_pour 1 0 0 0 [(0, vA G 0), (1, vI l1), (2, vI l2), (3, vI l3), (4, vI l4), (5, vI l5)] [] σ Q
  refine R_aload_n e_X11_pour_0.1 0 rfl ?_
  refine R_iload_n e_X11_pour_0.2.1 1 rfl ?_
  refine R_callV (mc := 0) (ms := 0) (mc' := 0) (ms' := 0) (M' := M_X11_isTray) (d' := 0) (as := [vI l1]) (st := []) 11 1 e_X11_pour_0.2.2.1 (kCVof m_X11_isTray l_X11_109) rfl (by decide) kx_0 (by decide) (by decide) rfl rfl (by show (0 : Nat) ≤ 8; decide) ?_
  refine Run.mono h (fun r1 s2 h => ?_)
  refine R_eqs (st2 := [vI r1]) rfl rfl ?_
  obtain ⟨q3, h⟩ := h
  refine R_if_eq 30 e_X11_pour_0.2.2.2.1 (by decide) q3  (fun q => ?_) (fun q => ?_)
  · replace h := h.1 q
    refine R_aload_n e_X11_pour_1.2.2.2.2.1 0 rfl ?_
    refine R_iconst e_X11_pour_1.2.2.2.2.2.1 ?_
    refine R_callV (mc := 0) (ms := 0) (mc' := 0) (ms' := 0) (M' := M_X11_refuse) (d' := 0) (as := [vI 1]) (st := []) 11 1 e_X11_pour_1.2.2.2.2.2.2.1 (kCVof m_X11_refuse l_X11_113) rfl (by decide) kx_0 (by decide) (by decide) rfl rfl (by show (0 : Nat) ≤ 8; decide) ?_
    refine Run.mono h (fun r4 s5 h => ?_)
    refine R_eqs (st2 := [vI r4]) rfl rfl ?_
    obtain ⟨q6, h⟩ := h
    exact R_zreturn e_X11_pour_1.2.2.2.2.2.2.2.1 rfl q6 h
  · replace h := h.2 q
    refine R_aload_n e_X11_pour_0.2.2.2.2.1 0 rfl ?_
    refine R_iload_n e_X11_pour_0.2.2.2.2.2.1 3 rfl ?_
    refine R_callV (mc := 0) (ms := 0) (mc' := 0) (ms' := 0) (M' := M_X11_isTray) (d' := 0) (as := [vI l3]) (st := []) 11 1 e_X11_pour_0.2.2.2.2.2.2.1 (kCVof m_X11_isTray l_X11_109) rfl (by decide) kx_0 (by decide) (by decide) rfl rfl (by show (0 : Nat) ≤ 8; decide) ?_
    refine Run.mono h (fun r7 s8 h => ?_)
    refine R_eqs (st2 := [vI r7]) rfl rfl ?_
    obtain ⟨q9, h⟩ := h
    refine R_if_eq 30 e_X11_pour_0.2.2.2.2.2.2.2.1 (by decide) q9  (fun q => ?_) (fun q => ?_)
    · replace h := h.1 q
      refine R_aload_n e_X11_pour_1.2.2.2.2.1 0 rfl ?_
      refine R_iconst e_X11_pour_1.2.2.2.2.2.1 ?_
      refine R_callV (mc := 0) (ms := 0) (mc' := 0) (ms' := 0) (M' := M_X11_refuse) (d' := 0) (as := [vI 1]) (st := []) 11 1 e_X11_pour_1.2.2.2.2.2.2.1 (kCVof m_X11_refuse l_X11_113) rfl (by decide) kx_0 (by decide) (by decide) rfl rfl (by show (0 : Nat) ≤ 8; decide) ?_
      refine Run.mono h (fun r10 s11 h => ?_)
      refine R_eqs (st2 := [vI r10]) rfl rfl ?_
      obtain ⟨q12, h⟩ := h
      exact R_zreturn e_X11_pour_1.2.2.2.2.2.2.2.1 rfl q12 h
    · replace h := h.2 q
      refine R_iload_n e_X11_pour_0.2.2.2.2.2.2.2.2.1 2 rfl ?_
      obtain ⟨q13, h⟩ := h
      refine R_if_lt 30 e_X11_pour_0.2.2.2.2.2.2.2.2.2 (by decide) q13  (fun q => ?_) (fun q => ?_)
      · replace h := h.1 q
        refine R_aload_n e_X11_pour_1.2.2.2.2.1 0 rfl ?_
        refine R_iconst e_X11_pour_1.2.2.2.2.2.1 ?_
        refine R_callV (mc := 0) (ms := 0) (mc' := 0) (ms' := 0) (M' := M_X11_refuse) (d' := 0) (as := [vI 1]) (st := []) 11 1 e_X11_pour_1.2.2.2.2.2.2.1 (kCVof m_X11_refuse l_X11_113) rfl (by decide) kx_0 (by decide) (by decide) rfl rfl (by show (0 : Nat) ≤ 8; decide) ?_
        refine Run.mono h (fun r14 s15 h => ?_)
        refine R_eqs (st2 := [vI r14]) rfl rfl ?_
        obtain ⟨q16, h⟩ := h
        exact R_zreturn e_X11_pour_1.2.2.2.2.2.2.2.1 rfl q16 h
      · replace h := h.2 q
        refine R_iload e_X11_pour_1.1 4 rfl ?_
        obtain ⟨q17, h⟩ := h
        refine R_if_lt 30 e_X11_pour_1.2.1 (by decide) q17  (fun q => ?_) (fun q => ?_)
        · replace h := h.1 q
          refine R_aload_n e_X11_pour_1.2.2.2.2.1 0 rfl ?_
          refine R_iconst e_X11_pour_1.2.2.2.2.2.1 ?_
          refine R_callV (mc := 0) (ms := 0) (mc' := 0) (ms' := 0) (M' := M_X11_refuse) (d' := 0) (as := [vI 1]) (st := []) 11 1 e_X11_pour_1.2.2.2.2.2.2.1 (kCVof m_X11_refuse l_X11_113) rfl (by decide) kx_0 (by decide) (by decide) rfl rfl (by show (0 : Nat) ≤ 8; decide) ?_
          refine Run.mono h (fun r18 s19 h => ?_)
          refine R_eqs (st2 := [vI r18]) rfl rfl ?_
          obtain ⟨q20, h⟩ := h
          exact R_zreturn e_X11_pour_1.2.2.2.2.2.2.2.1 rfl q20 h
        · replace h := h.2 q
          refine R_iload e_X11_pour_1.2.2.1 5 rfl ?_
          obtain ⟨q21, h⟩ := h
          refine R_if_ge 36 e_X11_pour_1.2.2.2.1 (by decide) q21  (fun q => ?_) (fun q => ?_)
          · replace h := h.1 q
            refine R_aload_n e_X11_pour_1.2.2.2.2.2.2.2.2.1 0 rfl ?_
            refine R_getA 11 3 1 e_X11_pour_1.2.2.2.2.2.2.2.2.2 f_X11_22 kx_0 (fun _ _ => rfl) rx_0_3 (by decide) ?_
            refine R_iload_n e_X11_pour_2.1 1 rfl ?_
            obtain ⟨q22, h⟩ := h
            refine R_aald 24 4 (adT l1) e_X11_pour_2.2.1 (by decide) kxa_1 q22 (adT_at q22) (adT_n q22) ?_
            refine R_astore (ls2 := [(6, vA G (adT l1)), (0, vA G 0), (1, vI l1), (2, vI l2), (3, vI l3), (4, vI l4), (5, vI l5)]) e_X11_pour_2.2.2.1 (by decide) rfl ?_
            refine R_aload_n e_X11_pour_2.2.2.2.1 1 rfl ?_
            refine R_getA 11 3 1 e_X11_pour_2.2.2.2.2.1 f_X11_22 kx_0 (fun _ _ => rfl) rx_0_3 (by decide) ?_
            refine R_iload_n e_X11_pour_2.2.2.2.2.2.1 4 rfl ?_
            obtain ⟨q23, h⟩ := h
            refine R_aald 24 4 (adT l3) e_X11_pour_2.2.2.2.2.2.2.1 (by decide) kxa_1 q23 (adT_at q23) (adT_n q23) ?_
            refine R_astore (ls2 := [(7, vA G (adT l3)), (6, vA G (adT l1)), (0, vA G 0), (1, vI l1), (2, vI l2), (3, vI l3), (4, vI l4), (5, vI l5)]) e_X11_pour_2.2.2.2.2.2.2.2.1 (by decide) rfl ?_
            refine R_aload e_X11_pour_2.2.2.2.2.2.2.2.2.1 1 rfl ?_
            refine R_getI 10 0 0 e_X11_pour_2.2.2.2.2.2.2.2.2.2 f_X11_140 (kT_self (adT_is q22)) (fun _ _ => rfl) rfl ?_
            obtain ⟨q24, h⟩ := h
            refine R_if_eq 68 e_X11_pour_3.1 (by decide) q24  (fun q => ?_) (fun q => ?_)
            · replace h := h.1 q
              refine R_aload_n e_X11_pour_3.2.2.2.2.1 2 rfl ?_
              refine R_iconst e_X11_pour_3.2.2.2.2.2.1 ?_
              refine R_callV (mc := 0) (ms := 0) (mc' := 0) (ms' := 0) (M' := M_X11_refuse) (d' := 0) (as := [vI 2]) (st := []) 11 1 e_X11_pour_3.2.2.2.2.2.2.1 (kCVof m_X11_refuse l_X11_113) rfl (by decide) kx_0 (by decide) (by decide) rfl rfl (by show (0 : Nat) ≤ 8; decide) ?_
              refine Run.mono h (fun r25 s26 h => ?_)
              refine R_eqs (st2 := [vI r25]) rfl rfl ?_
              obtain ⟨q27, h⟩ := h
              exact R_zreturn e_X11_pour_3.2.2.2.2.2.2.2.1 rfl q27 h
            · replace h := h.2 q
              refine R_aload e_X11_pour_3.2.1 0 rfl ?_
              refine R_getI 10 0 0 e_X11_pour_3.2.2.1 f_X11_140 (kT_self (adT_is q23)) (fun _ _ => rfl) rfl ?_
              obtain ⟨q28, h⟩ := h
              refine R_if_ne 74 e_X11_pour_3.2.2.2.1 (by decide) q28  (fun q => ?_) (fun q => ?_)
              · replace h := h.1 q
                refine R_aload e_X11_pour_3.2.2.2.2.2.2.2.2.1 1 rfl ?_
                refine R_getI 10 1 1 e_X11_pour_3.2.2.2.2.2.2.2.2.2 f_X11_144 (kT_self (adT_is q22)) (fun _ _ => rfl) rfl ?_
                refine R_aload e_X11_pour_4.1 0 rfl ?_
                refine R_getI 10 1 1 e_X11_pour_4.2.1 f_X11_144 (kT_self (adT_is q23)) (fun _ _ => rfl) rfl ?_
                obtain ⟨q29, h⟩ := h
                obtain ⟨q30, h⟩ := h
                refine R_icmp_eq 94 e_X11_pour_4.2.2.1 (by decide) q29 q30 (fun q => ?_) (fun q => ?_)
                · replace h := h.1 q
                  refine R_iload e_X11_pour_4.2.2.2.2.2.2.2.1 7 rfl ?_
                  refine R_aload e_X11_pour_4.2.2.2.2.2.2.2.2.1 1 rfl ?_
                  refine R_getI 10 2 2 e_X11_pour_4.2.2.2.2.2.2.2.2.2 f_X11_147 (kT_self (adT_is q22)) (fun _ _ => rfl) rfl ?_
                  refine R_iload_n e_X11_pour_5.1 4 rfl ?_
                  refine R_isub e_X11_pour_5.2.1 ?_
                  obtain ⟨q31, h⟩ := h
                  refine R_icmp_gt 119 e_X11_pour_5.2.2.1 (by decide) q21 q31 (fun q => ?_) (fun q => ?_)
                  · replace h := h.1 q
                    refine R_aload_n e_X11_pour_5.2.2.2.2.2.2.2.2.2 2 rfl ?_
                    refine R_iconst e_X11_pour_6.1 ?_
                    refine R_callV (mc := 0) (ms := 0) (mc' := 0) (ms' := 0) (M' := M_X11_refuse) (d' := 0) (as := [vI 3]) (st := []) 11 1 e_X11_pour_6.2.1 (kCVof m_X11_refuse l_X11_113) rfl (by decide) kx_0 (by decide) (by decide) rfl rfl (by show (0 : Nat) ≤ 8; decide) ?_
                    refine Run.mono h (fun r32 s33 h => ?_)
                    refine R_eqs (st2 := [vI r32]) rfl rfl ?_
                    obtain ⟨q34, h⟩ := h
                    exact R_zreturn e_X11_pour_6.2.2.1 rfl q34 h
                  · replace h := h.2 q
                    refine R_iload e_X11_pour_5.2.2.2.1 7 rfl ?_
                    refine R_aload e_X11_pour_5.2.2.2.2.1 0 rfl ?_
                    refine R_getI 10 2 2 e_X11_pour_5.2.2.2.2.2.1 f_X11_147 (kT_self (adT_is q23)) (fun _ _ => rfl) rfl ?_
                    refine R_iload e_X11_pour_5.2.2.2.2.2.2.1 6 rfl ?_
                    refine R_isub e_X11_pour_5.2.2.2.2.2.2.2.1 ?_
                    obtain ⟨q35, h⟩ := h
                    refine R_icmp_le 125 e_X11_pour_5.2.2.2.2.2.2.2.2.1 (by decide) q21 q35 (fun q => ?_) (fun q => ?_)
                    · replace h := h.1 q
                      refine R_aload e_X11_pour_6.2.2.2.1 1 rfl ?_
                      refine R_getA 10 3 (adT l1 + 1) e_X11_pour_6.2.2.2.2.1 f_X11_136 (kT_self (adT_is q22)) (fun _ _ => rfl) (kT_r3 (adT_is q22)) (kT_n1 (adT_is q22)) ?_
                      refine R_iload_n e_X11_pour_6.2.2.2.2.2.1 4 rfl ?_
                      refine R_aload e_X11_pour_6.2.2.2.2.2.2.1 0 rfl ?_
                      refine R_getA 10 3 (adT l3 + 1) e_X11_pour_6.2.2.2.2.2.2.2.1 f_X11_136 (kT_self (adT_is q23)) (fun _ _ => rfl) (kT_r3 (adT_is q23)) (kT_n1 (adT_is q23)) ?_
                      refine R_iload e_X11_pour_6.2.2.2.2.2.2.2.2.1 6 rfl ?_
                      refine R_iload e_X11_pour_6.2.2.2.2.2.2.2.2.2 7 rfl ?_
                      obtain ⟨q36, h⟩ := h
                      refine R_copyL 60 60 rfl WX_rd e_X11_pour_7.1 (kT_nums (adT_is q22)) (kT_nums (adT_is q23)) q36 l_cp_X11_150 (by decide) (by show (0 : Nat) ≤ 8; decide) ?_
                      refine R_aload_n e_X11_pour_7.2.1 2 rfl ?_
                      refine R_callV (mc := 0) (ms := 0) (mc' := 0) (ms' := 0) (M' := M_X11_grant) (d' := 0) (as := []) (st := []) 11 0 e_X11_pour_7.2.2.1 (kCVof m_X11_grant l_X11_120) rfl (by decide) kx_0 (by decide) (by decide) rfl rfl (by show (0 : Nat) ≤ 8; decide) ?_
                      refine Run.mono h (fun r37 s38 h => ?_)
                      refine R_eqs (st2 := [vI r37]) rfl rfl ?_
                      obtain ⟨q39, h⟩ := h
                      exact R_zreturn e_X11_pour_7.2.2.2 rfl q39 h
                    · replace h := h.2 q
                      refine R_aload_n e_X11_pour_5.2.2.2.2.2.2.2.2.2 2 rfl ?_
                      refine R_iconst e_X11_pour_6.1 ?_
                      refine R_callV (mc := 0) (ms := 0) (mc' := 0) (ms' := 0) (M' := M_X11_refuse) (d' := 0) (as := [vI 3]) (st := []) 11 1 e_X11_pour_6.2.1 (kCVof m_X11_refuse l_X11_113) rfl (by decide) kx_0 (by decide) (by decide) rfl rfl (by show (0 : Nat) ≤ 8; decide) ?_
                      refine Run.mono h (fun r40 s41 h => ?_)
                      refine R_eqs (st2 := [vI r40]) rfl rfl ?_
                      obtain ⟨q42, h⟩ := h
                      exact R_zreturn e_X11_pour_6.2.2.1 rfl q42 h
                · replace h := h.2 q
                  refine R_aload_n e_X11_pour_4.2.2.2.1 2 rfl ?_
                  refine R_bipush e_X11_pour_4.2.2.2.2.1 (by decide) ?_
                  refine R_callV (mc := 0) (ms := 0) (mc' := 0) (ms' := 0) (M' := M_X11_refuse) (d' := 0) (as := [vI 8]) (st := []) 11 1 e_X11_pour_4.2.2.2.2.2.1 (kCVof m_X11_refuse l_X11_113) rfl (by decide) kx_0 (by decide) (by decide) rfl rfl (by show (0 : Nat) ≤ 8; decide) ?_
                  refine Run.mono h (fun r43 s44 h => ?_)
                  refine R_eqs (st2 := [vI r43]) rfl rfl ?_
                  obtain ⟨q45, h⟩ := h
                  exact R_zreturn e_X11_pour_4.2.2.2.2.2.2.1 rfl q45 h
              · replace h := h.2 q
                refine R_aload_n e_X11_pour_3.2.2.2.2.1 2 rfl ?_
                refine R_iconst e_X11_pour_3.2.2.2.2.2.1 ?_
                refine R_callV (mc := 0) (ms := 0) (mc' := 0) (ms' := 0) (M' := M_X11_refuse) (d' := 0) (as := [vI 2]) (st := []) 11 1 e_X11_pour_3.2.2.2.2.2.2.1 (kCVof m_X11_refuse l_X11_113) rfl (by decide) kx_0 (by decide) (by decide) rfl rfl (by show (0 : Nat) ≤ 8; decide) ?_
                refine Run.mono h (fun r46 s47 h => ?_)
                refine R_eqs (st2 := [vI r46]) rfl rfl ?_
                obtain ⟨q48, h⟩ := h
                exact R_zreturn e_X11_pour_3.2.2.2.2.2.2.2.1 rfl q48 h
          · replace h := h.2 q
            refine R_aload_n e_X11_pour_1.2.2.2.2.1 0 rfl ?_
            refine R_iconst e_X11_pour_1.2.2.2.2.2.1 ?_
            refine R_callV (mc := 0) (ms := 0) (mc' := 0) (ms' := 0) (M' := M_X11_refuse) (d' := 0) (as := [vI 1]) (st := []) 11 1 e_X11_pour_1.2.2.2.2.2.2.1 (kCVof m_X11_refuse l_X11_113) rfl (by decide) kx_0 (by decide) (by decide) rfl rfl (by show (0 : Nat) ≤ 8; decide) ?_
            refine Run.mono h (fun r49 s50 h => ?_)
            refine R_eqs (st2 := [vI r49]) rfl rfl ?_
            obtain ⟨q51, h⟩ := h
            exact R_zreturn e_X11_pour_1.2.2.2.2.2.2.2.1 rfl q51 h
/-! KiteLand.feed(IIIII)I -/
theorem e_X11_feed_0 : decode cX11_feed 0 = .ok (.aload_n 0, 1) ∧ decode cX11_feed 1 = .ok (.getfield 30, 3) ∧ decode cX11_feed 4 = .ok (.sipush 880, 3) ∧ decode cX11_feed 7 = .ok (.if_icmp .le 5, 3) ∧ decode cX11_feed 10 = .ok (.iconst (-1), 1) ∧ decode cX11_feed 11 = .ok (.ireturn, 1) ∧ decode cX11_feed 12 = .ok (.aload_n 0, 1) ∧ decode cX11_feed 13 = .ok (.iload_n 1, 1) ∧ decode cX11_feed 14 = .ok (.invokevirtual 156, 3) ∧ decode cX11_feed 17 = .ok (.aload_n 0, 1) := by decide +kernel
theorem e_X11_feed_1 : decode cX11_feed 18 = .ok (.iload_n 2, 1) ∧ decode cX11_feed 19 = .ok (.invokevirtual 156, 3) ∧ decode cX11_feed 22 = .ok (.aload_n 0, 1) ∧ decode cX11_feed 23 = .ok (.iload_n 3, 1) ∧ decode cX11_feed 24 = .ok (.invokevirtual 156, 3) ∧ decode cX11_feed 27 = .ok (.aload_n 0, 1) ∧ decode cX11_feed 28 = .ok (.iload 4, 2) ∧ decode cX11_feed 30 = .ok (.invokevirtual 156, 3) ∧ decode cX11_feed 33 = .ok (.aload_n 0, 1) ∧ decode cX11_feed 34 = .ok (.iload 5, 2) := by decide +kernel
theorem e_X11_feed_2 : decode cX11_feed 36 = .ok (.invokevirtual 156, 3) ∧ decode cX11_feed 39 = .ok (.aload_n 0, 1) ∧ decode cX11_feed 40 = .ok (.getfield 30, 3) ∧ decode cX11_feed 43 = .ok (.ireturn, 1) := by decide +kernel
theorem S_X11_feed {G : Kg} {σ : Kmem} {Q : Int → Kmem → Prop} {l1 l2 l3 l4 l5 : Int}  (h : (rI (σ 0 5)) ∧ ((σ 0 5 ≤ 880 → Run G WX M_X11_putOnTape 0 0 0 [vA G 0, vI l1] σ (fun r2 s3 => Run G WX M_X11_putOnTape 0 0 0 [vA G 0, vI l2] s3 (fun r4 s5 => Run G WX M_X11_putOnTape 0 0 0 [vA G 0, vI l3] s5 (fun r6 s7 => Run G WX M_X11_putOnTape 0 0 0 [vA G 0, vI l4] s7 (fun r8 s9 => Run G WX M_X11_putOnTape 0 0 0 [vA G 0, vI l5] s9 (fun r10 s11 => Q (s11 0 5) s11)))))) ∧ (880 < σ 0 5 → Q (-1) σ))) : Run G WX M_X11_feed 1 0 0 [vA G 0, vI l1, vI l2, vI l3, vI l4, vI l5] σ Q := by
  refine Run.of (by decide +kernel) (by show (6 : Nat) ≤ 6; decide) ?_
  show Ex G WX M_X11_feed 1 0 0 0 [(0, vA G 0), (1, vI l1), (2, vI l2), (3, vI l3), (4, vI l4), (5, vI l5)] [] σ Q
  refine R_aload_n e_X11_feed_0.1 0 rfl ?_
  refine R_getI 11 5 5 e_X11_feed_0.2.1 f_X11_30 kx_0 (fun _ _ => rfl) rfl ?_
  refine R_sipush e_X11_feed_0.2.2.1 (by decide) ?_
  obtain ⟨q1, h⟩ := h
  refine R_icmp_le 12 e_X11_feed_0.2.2.2.1 (by decide) q1 (by decide) (fun q => ?_) (fun q => ?_)
  · replace h := h.1 q
    refine R_aload_n e_X11_feed_0.2.2.2.2.2.2.1 0 rfl ?_
    refine R_iload_n e_X11_feed_0.2.2.2.2.2.2.2.1 1 rfl ?_
    refine R_callV (mc := 0) (ms := 0) (mc' := 0) (ms' := 0) (M' := M_X11_putOnTape) (d' := 0) (as := [vI l1]) (st := []) 11 1 e_X11_feed_0.2.2.2.2.2.2.2.2.1 (kCVof m_X11_putOnTape l_X11_156) rfl (by decide) kx_0 (by decide) (by decide) rfl rfl (by show (0 : Nat) ≤ 8; decide) ?_
    refine Run.mono h (fun r2 s3 h => ?_)
    refine R_eqs (st2 := []) rfl rfl ?_
    refine R_aload_n e_X11_feed_0.2.2.2.2.2.2.2.2.2 0 rfl ?_
    refine R_iload_n e_X11_feed_1.1 2 rfl ?_
    refine R_callV (mc := 0) (ms := 0) (mc' := 0) (ms' := 0) (M' := M_X11_putOnTape) (d' := 0) (as := [vI l2]) (st := []) 11 1 e_X11_feed_1.2.1 (kCVof m_X11_putOnTape l_X11_156) rfl (by decide) kx_0 (by decide) (by decide) rfl rfl (by show (0 : Nat) ≤ 8; decide) ?_
    refine Run.mono h (fun r4 s5 h => ?_)
    refine R_eqs (st2 := []) rfl rfl ?_
    refine R_aload_n e_X11_feed_1.2.2.1 0 rfl ?_
    refine R_iload_n e_X11_feed_1.2.2.2.1 3 rfl ?_
    refine R_callV (mc := 0) (ms := 0) (mc' := 0) (ms' := 0) (M' := M_X11_putOnTape) (d' := 0) (as := [vI l3]) (st := []) 11 1 e_X11_feed_1.2.2.2.2.1 (kCVof m_X11_putOnTape l_X11_156) rfl (by decide) kx_0 (by decide) (by decide) rfl rfl (by show (0 : Nat) ≤ 8; decide) ?_
    refine Run.mono h (fun r6 s7 h => ?_)
    refine R_eqs (st2 := []) rfl rfl ?_
    refine R_aload_n e_X11_feed_1.2.2.2.2.2.1 0 rfl ?_
    refine R_iload e_X11_feed_1.2.2.2.2.2.2.1 4 rfl ?_
    refine R_callV (mc := 0) (ms := 0) (mc' := 0) (ms' := 0) (M' := M_X11_putOnTape) (d' := 0) (as := [vI l4]) (st := []) 11 1 e_X11_feed_1.2.2.2.2.2.2.2.1 (kCVof m_X11_putOnTape l_X11_156) rfl (by decide) kx_0 (by decide) (by decide) rfl rfl (by show (0 : Nat) ≤ 8; decide) ?_
    refine Run.mono h (fun r8 s9 h => ?_)
    refine R_eqs (st2 := []) rfl rfl ?_
    refine R_aload_n e_X11_feed_1.2.2.2.2.2.2.2.2.1 0 rfl ?_
    refine R_iload e_X11_feed_1.2.2.2.2.2.2.2.2.2 5 rfl ?_
    refine R_callV (mc := 0) (ms := 0) (mc' := 0) (ms' := 0) (M' := M_X11_putOnTape) (d' := 0) (as := [vI l5]) (st := []) 11 1 e_X11_feed_2.1 (kCVof m_X11_putOnTape l_X11_156) rfl (by decide) kx_0 (by decide) (by decide) rfl rfl (by show (0 : Nat) ≤ 8; decide) ?_
    refine Run.mono h (fun r10 s11 h => ?_)
    refine R_eqs (st2 := []) rfl rfl ?_
    refine R_aload_n e_X11_feed_2.2.1 0 rfl ?_
    refine R_getI 11 5 5 e_X11_feed_2.2.2.1 f_X11_30 kx_0 (fun _ _ => rfl) rfl ?_
    exact R_ireturn e_X11_feed_2.2.2.2 rfl h
  · replace h := h.2 q
    refine R_iconst e_X11_feed_0.2.2.2.2.1 ?_
    exact R_ireturn e_X11_feed_0.2.2.2.2.2.1 rfl h
/-! KiteLand.county(I)I -/
theorem e_X11_county_0 : decode cX11_county 0 = .ok (.iload_n 1, 1) ∧ decode cX11_county 1 = .ok (.ifCond .lt 11, 3) ∧ decode cX11_county 4 = .ok (.iload_n 1, 1) ∧ decode cX11_county 5 = .ok (.aload_n 0, 1) ∧ decode cX11_county 6 = .ok (.getfield 30, 3) ∧ decode cX11_county 9 = .ok (.if_icmp .le 9, 3) ∧ decode cX11_county 12 = .ok (.aload_n 0, 1) ∧ decode cX11_county 13 = .ok (.iconst 1, 1) ∧ decode cX11_county 14 = .ok (.invokevirtual 132, 3) ∧ decode cX11_county 17 = .ok (.ireturn, 1) := by decide +kernel
theorem e_X11_county_1 : decode cX11_county 18 = .ok (.aload_n 0, 1) ∧ decode cX11_county 19 = .ok (.getfield 36, 3) ∧ decode cX11_county 22 = .ok (.aload_n 0, 1) ∧ decode cX11_county 23 = .ok (.getfield 26, 3) ∧ decode cX11_county 26 = .ok (.iload_n 1, 1) ∧ decode cX11_county 27 = .ok (.invokevirtual 160, 3) ∧ decode cX11_county 30 = .ok (.aload_n 0, 1) ∧ decode cX11_county 31 = .ok (.iconst 0, 1) ∧ decode cX11_county 32 = .ok (.putfield 30, 3) ∧ decode cX11_county 35 = .ok (.aload_n 0, 1) := by decide +kernel
theorem e_X11_county_2 : decode cX11_county 36 = .ok (.getfield 55, 3) ∧ decode cX11_county 39 = .ok (.invokevirtual 164, 3) ∧ decode cX11_county 42 = .ok (.istore_n 2, 1) ∧ decode cX11_county 43 = .ok (.iload_n 2, 1) ∧ decode cX11_county 44 = .ok (.ifCond .ne 10, 3) ∧ decode cX11_county 47 = .ok (.aload_n 0, 1) ∧ decode cX11_county 48 = .ok (.bipush 9, 2) ∧ decode cX11_county 50 = .ok (.invokevirtual 132, 3) ∧ decode cX11_county 53 = .ok (.ireturn, 1) ∧ decode cX11_county 54 = .ok (.aload_n 0, 1) := by decide +kernel
theorem e_X11_county_3 : decode cX11_county 55 = .ok (.getfield 43, 3) ∧ decode cX11_county 58 = .ok (.aload_n 0, 1) ∧ decode cX11_county 59 = .ok (.getfield 47, 3) ∧ decode cX11_county 62 = .ok (.invokevirtual 167, 3) ∧ decode cX11_county 65 = .ok (.aload_n 0, 1) ∧ decode cX11_county 66 = .ok (.getfield 71, 3) ∧ decode cX11_county 69 = .ok (.invokevirtual 170, 3) ∧ decode cX11_county 72 = .ok (.aload_n 0, 1) ∧ decode cX11_county 73 = .ok (.aload_n 0, 1) ∧ decode cX11_county 74 = .ok (.getfield 43, 3) := by decide +kernel
theorem e_X11_county_4 : decode cX11_county 77 = .ok (.getfield 173, 3) ∧ decode cX11_county 80 = .ok (.invokevirtual 176, 3) ∧ decode cX11_county 83 = .ok (.ireturn, 1) := by decide +kernel
theorem S_X11_county {G : Kg} {σ : Kmem} {Q : Int → Kmem → Prop} {l1 : Int}  (h : (rI l1) ∧ ((l1 < 0 → Run G WX M_X11_deny 0 0 0 [vA G 0, vI 1] σ (fun r2 s3 => Q r2 s3)) ∧ (0 ≤ l1 → (rI (σ 0 5)) ∧ ((l1 ≤ σ 0 5 → Run G WX M_X6_open 2 0 0 [vA G 3, vA G 2, vI l1] σ (fun r5 s6 => Run G WX M_X1_readAll 9 0 0 [vA G 57] (kup s6 0 5 0) (fun r7 s8 => (rI r7) ∧ ((r7 ≠ 0 → Run G WX M_X0_copy 1 0 0 [vA G 5, vA G 31] s8 (fun r10 s11 => Run G WX M_X7_clear 0 0 0 [vA G 64] s11 (fun r12 s13 => Run G WX M_X11_give 0 0 0 [vA G 0, vI (s13 5 5)] s13 (fun r14 s15 => Q r14 s15)))) ∧ (r7 = 0 → Run G WX M_X11_deny 0 0 0 [vA G 0, vI 9] s8 (fun r16 s17 => Q r16 s17)))))) ∧ (σ 0 5 < l1 → Run G WX M_X11_deny 0 0 0 [vA G 0, vI 1] σ (fun r18 s19 => Q r18 s19)))))) : Run G WX M_X11_county 10 0 0 [vA G 0, vI l1] σ Q := by
  refine Run.of (by decide +kernel) (by show (2 : Nat) ≤ 3; decide) ?_
  show Ex G WX M_X11_county 10 0 0 0 [(0, vA G 0), (1, vI l1)] [] σ Q
  refine R_iload_n e_X11_county_0.1 1 rfl ?_
  obtain ⟨q1, h⟩ := h
  refine R_if_lt 12 e_X11_county_0.2.1 (by decide) q1  (fun q => ?_) (fun q => ?_)
  · replace h := h.1 q
    refine R_aload_n e_X11_county_0.2.2.2.2.2.2.1 0 rfl ?_
    refine R_iconst e_X11_county_0.2.2.2.2.2.2.2.1 ?_
    refine R_callV (mc := 0) (ms := 0) (mc' := 0) (ms' := 0) (M' := M_X11_deny) (d' := 0) (as := [vI 1]) (st := []) 11 1 e_X11_county_0.2.2.2.2.2.2.2.2.1 (kCVof m_X11_deny l_X11_132) rfl (by decide) kx_0 (by decide) (by decide) rfl rfl (by show (0 : Nat) ≤ 8; decide) ?_
    refine Run.mono h (fun r2 s3 h => ?_)
    refine R_eqs (st2 := [vI r2]) rfl rfl ?_
    exact R_ireturn e_X11_county_0.2.2.2.2.2.2.2.2.2 rfl h
  · replace h := h.2 q
    refine R_iload_n e_X11_county_0.2.2.1 1 rfl ?_
    refine R_aload_n e_X11_county_0.2.2.2.1 0 rfl ?_
    refine R_getI 11 5 5 e_X11_county_0.2.2.2.2.1 f_X11_30 kx_0 (fun _ _ => rfl) rfl ?_
    obtain ⟨q4, h⟩ := h
    refine R_icmp_le 18 e_X11_county_0.2.2.2.2.2.1 (by decide) q1 q4 (fun q => ?_) (fun q => ?_)
    · replace h := h.1 q
      refine R_aload_n e_X11_county_1.1 0 rfl ?_
      refine R_getA 11 6 3 e_X11_county_1.2.1 f_X11_36 kx_0 (fun _ _ => rfl) rx_0_6 (by decide) ?_
      refine R_aload_n e_X11_county_1.2.2.1 0 rfl ?_
      refine R_getA 11 4 2 e_X11_county_1.2.2.2.1 f_X11_26 kx_0 (fun _ _ => rfl) rx_0_4 (by decide) ?_
      refine R_iload_n e_X11_county_1.2.2.2.2.1 1 rfl ?_
      refine R_callV (mc := 0) (ms := 0) (mc' := 0) (ms' := 0) (M' := M_X6_open) (d' := 2) (as := [vA G 2, vI l1]) (st := []) 6 2 e_X11_county_1.2.2.2.2.2.1 (kCVof m_X6_open l_X11_160) rfl (by decide) kx_3 (by decide) (by decide) rfl rfl (by show (0 : Nat) ≤ 8; decide) ?_
      refine Run.mono h (fun r5 s6 h => ?_)
      refine R_eqs (st2 := []) rfl rfl ?_
      refine R_aload_n e_X11_county_1.2.2.2.2.2.2.1 0 rfl ?_
      refine R_iconst e_X11_county_1.2.2.2.2.2.2.2.1 ?_
      refine R_putI 11 5 5 WX_ok e_X11_county_1.2.2.2.2.2.2.2.2.1 f_X11_30 kx_0 rfl rfl rfl ?_
      refine R_aload_n e_X11_county_1.2.2.2.2.2.2.2.2.2 0 rfl ?_
      refine R_getA 11 9 57 e_X11_county_2.1 f_X11_55 kx_0 (fun _ _ => rfl) rx_0_9 (by decide) ?_
      refine R_callV (mc := 0) (ms := 0) (mc' := 0) (ms' := 0) (M' := M_X1_readAll) (d' := 9) (as := []) (st := []) 1 0 e_X11_county_2.2.1 (kCVof m_X1_readAll l_X11_164) rfl (by decide) kx_57 (by decide) (by decide) rfl rfl (by show (0 : Nat) ≤ 8; decide) ?_
      refine Run.mono h (fun r7 s8 h => ?_)
      refine R_eqs (st2 := [vI r7]) rfl rfl ?_
      refine R_istore_n (ls2 := [(2, vI r7), (0, vA G 0), (1, vI l1)]) e_X11_county_2.2.2.1 (by decide) rfl ?_
      refine R_iload_n e_X11_county_2.2.2.2.1 0 rfl ?_
      obtain ⟨q9, h⟩ := h
      refine R_if_ne 54 e_X11_county_2.2.2.2.2.1 (by decide) q9  (fun q => ?_) (fun q => ?_)
      · replace h := h.1 q
        refine R_aload_n e_X11_county_2.2.2.2.2.2.2.2.2.2 1 rfl ?_
        refine R_getA 11 7 5 e_X11_county_3.1 f_X11_43 kx_0 (fun _ _ => rfl) rx_0_7 (by decide) ?_
        refine R_aload_n e_X11_county_3.2.1 1 rfl ?_
        refine R_getA 11 8 31 e_X11_county_3.2.2.1 f_X11_47 kx_0 (fun _ _ => rfl) rx_0_8 (by decide) ?_
        refine R_callV (mc := 0) (ms := 0) (mc' := 0) (ms' := 0) (M' := M_X0_copy) (d' := 1) (as := [vA G 31]) (st := []) 0 1 e_X11_county_3.2.2.2.1 (kCVof m_X0_copy l_X11_167) rfl (by decide) (kC_self isC_5) (by decide) (by decide) rfl rfl (by show (0 : Nat) ≤ 8; decide) ?_
        refine Run.mono h (fun r10 s11 h => ?_)
        refine R_eqs (st2 := []) rfl rfl ?_
        refine R_aload_n e_X11_county_3.2.2.2.2.1 1 rfl ?_
        refine R_getA 11 11 64 e_X11_county_3.2.2.2.2.2.1 f_X11_71 kx_0 (fun _ _ => rfl) rx_0_11 (by decide) ?_
        refine R_callV (mc := 0) (ms := 0) (mc' := 0) (ms' := 0) (M' := M_X7_clear) (d' := 0) (as := []) (st := []) 7 0 e_X11_county_3.2.2.2.2.2.2.1 (kCVof m_X7_clear l_X11_170) rfl (by decide) (kS_self isS_64) (by decide) (by decide) rfl rfl (by show (0 : Nat) ≤ 8; decide) ?_
        refine Run.mono h (fun r12 s13 h => ?_)
        refine R_eqs (st2 := []) rfl rfl ?_
        refine R_aload_n e_X11_county_3.2.2.2.2.2.2.2.1 1 rfl ?_
        refine R_aload_n e_X11_county_3.2.2.2.2.2.2.2.2.1 1 rfl ?_
        refine R_getA 11 7 5 e_X11_county_3.2.2.2.2.2.2.2.2.2 f_X11_43 kx_0 (fun _ _ => rfl) rx_0_7 (by decide) ?_
        refine R_getI 0 5 5 e_X11_county_4.1 f_X11_173 (kC_self isC_5) (fun _ _ => rfl) rfl ?_
        refine R_callV (mc := 0) (ms := 0) (mc' := 0) (ms' := 0) (M' := M_X11_give) (d' := 0) (as := [vI (s13 5 5)]) (st := []) 11 1 e_X11_county_4.2.1 (kCVof m_X11_give l_X11_176) rfl (by decide) kx_0 (by decide) (by decide) rfl rfl (by show (0 : Nat) ≤ 8; decide) ?_
        refine Run.mono h (fun r14 s15 h => ?_)
        refine R_eqs (st2 := [vI r14]) rfl rfl ?_
        exact R_ireturn e_X11_county_4.2.2 rfl h
      · replace h := h.2 q
        refine R_aload_n e_X11_county_2.2.2.2.2.2.1 1 rfl ?_
        refine R_bipush e_X11_county_2.2.2.2.2.2.2.1 (by decide) ?_
        refine R_callV (mc := 0) (ms := 0) (mc' := 0) (ms' := 0) (M' := M_X11_deny) (d' := 0) (as := [vI 9]) (st := []) 11 1 e_X11_county_2.2.2.2.2.2.2.2.1 (kCVof m_X11_deny l_X11_132) rfl (by decide) kx_0 (by decide) (by decide) rfl rfl (by show (0 : Nat) ≤ 8; decide) ?_
        refine Run.mono h (fun r16 s17 h => ?_)
        refine R_eqs (st2 := [vI r16]) rfl rfl ?_
        exact R_ireturn e_X11_county_2.2.2.2.2.2.2.2.2.1 rfl h
    · replace h := h.2 q
      refine R_aload_n e_X11_county_0.2.2.2.2.2.2.1 0 rfl ?_
      refine R_iconst e_X11_county_0.2.2.2.2.2.2.2.1 ?_
      refine R_callV (mc := 0) (ms := 0) (mc' := 0) (ms' := 0) (M' := M_X11_deny) (d' := 0) (as := [vI 1]) (st := []) 11 1 e_X11_county_0.2.2.2.2.2.2.2.2.1 (kCVof m_X11_deny l_X11_132) rfl (by decide) kx_0 (by decide) (by decide) rfl rfl (by show (0 : Nat) ≤ 8; decide) ?_
      refine Run.mono h (fun r18 s19 h => ?_)
      refine R_eqs (st2 := [vI r18]) rfl rfl ?_
      exact R_ireturn e_X11_county_0.2.2.2.2.2.2.2.2.2 rfl h
/-! KiteLand.seasons(I)I -/
theorem e_X11_seasons_0 : decode cX11_seasons 0 = .ok (.iload_n 1, 1) ∧ decode cX11_seasons 1 = .ok (.ifCond .lt 18, 3) ∧ decode cX11_seasons 4 = .ok (.iload_n 1, 1) ∧ decode cX11_seasons 5 = .ok (.aload_n 0, 1) ∧ decode cX11_seasons 6 = .ok (.getfield 30, 3) ∧ decode cX11_seasons 9 = .ok (.if_icmp .gt 10, 3) ∧ decode cX11_seasons 12 = .ok (.iload_n 1, 1) ∧ decode cX11_seasons 13 = .ok (.sipush 300, 3) ∧ decode cX11_seasons 16 = .ok (.if_icmp .le 9, 3) ∧ decode cX11_seasons 19 = .ok (.aload_n 0, 1) := by decide +kernel
theorem e_X11_seasons_1 : decode cX11_seasons 20 = .ok (.iconst 1, 1) ∧ decode cX11_seasons 21 = .ok (.invokevirtual 132, 3) ∧ decode cX11_seasons 24 = .ok (.ireturn, 1) ∧ decode cX11_seasons 25 = .ok (.aload_n 0, 1) ∧ decode cX11_seasons 26 = .ok (.getfield 36, 3) ∧ decode cX11_seasons 29 = .ok (.aload_n 0, 1) ∧ decode cX11_seasons 30 = .ok (.getfield 26, 3) ∧ decode cX11_seasons 33 = .ok (.iload_n 1, 1) ∧ decode cX11_seasons 34 = .ok (.invokevirtual 160, 3) ∧ decode cX11_seasons 37 = .ok (.aload_n 0, 1) := by decide +kernel
theorem e_X11_seasons_2 : decode cX11_seasons 38 = .ok (.iconst 0, 1) ∧ decode cX11_seasons 39 = .ok (.putfield 30, 3) ∧ decode cX11_seasons 42 = .ok (.aload_n 0, 1) ∧ decode cX11_seasons 43 = .ok (.getfield 75, 3) ∧ decode cX11_seasons 46 = .ok (.aload_n 0, 1) ∧ decode cX11_seasons 47 = .ok (.getfield 36, 3) ∧ decode cX11_seasons 50 = .ok (.aload_n 0, 1) ∧ decode cX11_seasons 51 = .ok (.getfield 43, 3) ∧ decode cX11_seasons 54 = .ok (.invokevirtual 179, 3) ∧ decode cX11_seasons 57 = .ok (.istore_n 2, 1) := by decide +kernel
theorem e_X11_seasons_3 : decode cX11_seasons 58 = .ok (.iload_n 2, 1) ∧ decode cX11_seasons 59 = .ok (.ifCond .ne 10, 3) ∧ decode cX11_seasons 62 = .ok (.aload_n 0, 1) ∧ decode cX11_seasons 63 = .ok (.bipush 9, 2) ∧ decode cX11_seasons 65 = .ok (.invokevirtual 132, 3) ∧ decode cX11_seasons 68 = .ok (.ireturn, 1) ∧ decode cX11_seasons 69 = .ok (.aload_n 0, 1) ∧ decode cX11_seasons 70 = .ok (.getfield 71, 3) ∧ decode cX11_seasons 73 = .ok (.aload_n 0, 1) ∧ decode cX11_seasons 74 = .ok (.getfield 75, 3) := by decide +kernel
theorem e_X11_seasons_4 : decode cX11_seasons 77 = .ok (.invokevirtual 182, 3) ∧ decode cX11_seasons 80 = .ok (.aload_n 0, 1) ∧ decode cX11_seasons 81 = .ok (.aload_n 0, 1) ∧ decode cX11_seasons 82 = .ok (.getfield 71, 3) ∧ decode cX11_seasons 85 = .ok (.getfield 185, 3) ∧ decode cX11_seasons 88 = .ok (.invokevirtual 176, 3) ∧ decode cX11_seasons 91 = .ok (.ireturn, 1) := by decide +kernel
theorem S_X11_seasons {G : Kg} {σ : Kmem} {Q : Int → Kmem → Prop} {l1 : Int}  (h : (rI l1) ∧ ((l1 < 0 → Run G WX M_X11_deny 0 0 0 [vA G 0, vI 1] σ (fun r2 s3 => Q r2 s3)) ∧ (0 ≤ l1 → (rI (σ 0 5)) ∧ ((σ 0 5 < l1 → Run G WX M_X11_deny 0 0 0 [vA G 0, vI 1] σ (fun r5 s6 => Q r5 s6)) ∧ (l1 ≤ σ 0 5 → ((l1 ≤ 300 → Run G WX M_X6_open 2 0 0 [vA G 3, vA G 2, vI l1] σ (fun r7 s8 => Run G WX M_X7_readAll 9 0 0 [vA G 71, vA G 3, vA G 5] (kup s8 0 5 0) (fun r9 s10 => (rI r9) ∧ ((r9 ≠ 0 → Run G WX M_X7_copy 1 0 0 [vA G 64, vA G 71] s10 (fun r12 s13 => Run G WX M_X11_give 0 0 0 [vA G 0, vI (s13 64 1)] s13 (fun r14 s15 => Q r14 s15))) ∧ (r9 = 0 → Run G WX M_X11_deny 0 0 0 [vA G 0, vI 9] s10 (fun r16 s17 => Q r16 s17)))))) ∧ (300 < l1 → Run G WX M_X11_deny 0 0 0 [vA G 0, vI 1] σ (fun r18 s19 => Q r18 s19)))))))) : Run G WX M_X11_seasons 10 0 0 [vA G 0, vI l1] σ Q := by
  refine Run.of (by decide +kernel) (by show (2 : Nat) ≤ 3; decide) ?_
  show Ex G WX M_X11_seasons 10 0 0 0 [(0, vA G 0), (1, vI l1)] [] σ Q
  refine R_iload_n e_X11_seasons_0.1 1 rfl ?_
  obtain ⟨q1, h⟩ := h
  refine R_if_lt 19 e_X11_seasons_0.2.1 (by decide) q1  (fun q => ?_) (fun q => ?_)
  · replace h := h.1 q
    refine R_aload_n e_X11_seasons_0.2.2.2.2.2.2.2.2.2 0 rfl ?_
    refine R_iconst e_X11_seasons_1.1 ?_
    refine R_callV (mc := 0) (ms := 0) (mc' := 0) (ms' := 0) (M' := M_X11_deny) (d' := 0) (as := [vI 1]) (st := []) 11 1 e_X11_seasons_1.2.1 (kCVof m_X11_deny l_X11_132) rfl (by decide) kx_0 (by decide) (by decide) rfl rfl (by show (0 : Nat) ≤ 8; decide) ?_
    refine Run.mono h (fun r2 s3 h => ?_)
    refine R_eqs (st2 := [vI r2]) rfl rfl ?_
    exact R_ireturn e_X11_seasons_1.2.2.1 rfl h
  · replace h := h.2 q
    refine R_iload_n e_X11_seasons_0.2.2.1 1 rfl ?_
    refine R_aload_n e_X11_seasons_0.2.2.2.1 0 rfl ?_
    refine R_getI 11 5 5 e_X11_seasons_0.2.2.2.2.1 f_X11_30 kx_0 (fun _ _ => rfl) rfl ?_
    obtain ⟨q4, h⟩ := h
    refine R_icmp_gt 19 e_X11_seasons_0.2.2.2.2.2.1 (by decide) q1 q4 (fun q => ?_) (fun q => ?_)
    · replace h := h.1 q
      refine R_aload_n e_X11_seasons_0.2.2.2.2.2.2.2.2.2 0 rfl ?_
      refine R_iconst e_X11_seasons_1.1 ?_
      refine R_callV (mc := 0) (ms := 0) (mc' := 0) (ms' := 0) (M' := M_X11_deny) (d' := 0) (as := [vI 1]) (st := []) 11 1 e_X11_seasons_1.2.1 (kCVof m_X11_deny l_X11_132) rfl (by decide) kx_0 (by decide) (by decide) rfl rfl (by show (0 : Nat) ≤ 8; decide) ?_
      refine Run.mono h (fun r5 s6 h => ?_)
      refine R_eqs (st2 := [vI r5]) rfl rfl ?_
      exact R_ireturn e_X11_seasons_1.2.2.1 rfl h
    · replace h := h.2 q
      refine R_iload_n e_X11_seasons_0.2.2.2.2.2.2.1 1 rfl ?_
      refine R_sipush e_X11_seasons_0.2.2.2.2.2.2.2.1 (by decide) ?_
      refine R_icmp_le 25 e_X11_seasons_0.2.2.2.2.2.2.2.2.1 (by decide) q1 (by decide) (fun q => ?_) (fun q => ?_)
      · replace h := h.1 q
        refine R_aload_n e_X11_seasons_1.2.2.2.1 0 rfl ?_
        refine R_getA 11 6 3 e_X11_seasons_1.2.2.2.2.1 f_X11_36 kx_0 (fun _ _ => rfl) rx_0_6 (by decide) ?_
        refine R_aload_n e_X11_seasons_1.2.2.2.2.2.1 0 rfl ?_
        refine R_getA 11 4 2 e_X11_seasons_1.2.2.2.2.2.2.1 f_X11_26 kx_0 (fun _ _ => rfl) rx_0_4 (by decide) ?_
        refine R_iload_n e_X11_seasons_1.2.2.2.2.2.2.2.1 1 rfl ?_
        refine R_callV (mc := 0) (ms := 0) (mc' := 0) (ms' := 0) (M' := M_X6_open) (d' := 2) (as := [vA G 2, vI l1]) (st := []) 6 2 e_X11_seasons_1.2.2.2.2.2.2.2.2.1 (kCVof m_X6_open l_X11_160) rfl (by decide) kx_3 (by decide) (by decide) rfl rfl (by show (0 : Nat) ≤ 8; decide) ?_
        refine Run.mono h (fun r7 s8 h => ?_)
        refine R_eqs (st2 := []) rfl rfl ?_
        refine R_aload_n e_X11_seasons_1.2.2.2.2.2.2.2.2.2 0 rfl ?_
        refine R_iconst e_X11_seasons_2.1 ?_
        refine R_putI 11 5 5 WX_ok e_X11_seasons_2.2.1 f_X11_30 kx_0 rfl rfl rfl ?_
        refine R_aload_n e_X11_seasons_2.2.2.1 0 rfl ?_
        refine R_getA 11 12 71 e_X11_seasons_2.2.2.2.1 f_X11_75 kx_0 (fun _ _ => rfl) rx_0_12 (by decide) ?_
        refine R_aload_n e_X11_seasons_2.2.2.2.2.1 0 rfl ?_
        refine R_getA 11 6 3 e_X11_seasons_2.2.2.2.2.2.1 f_X11_36 kx_0 (fun _ _ => rfl) rx_0_6 (by decide) ?_
        refine R_aload_n e_X11_seasons_2.2.2.2.2.2.2.1 0 rfl ?_
        refine R_getA 11 7 5 e_X11_seasons_2.2.2.2.2.2.2.2.1 f_X11_43 kx_0 (fun _ _ => rfl) rx_0_7 (by decide) ?_
        refine R_callV (mc := 0) (ms := 0) (mc' := 0) (ms' := 0) (M' := M_X7_readAll) (d' := 9) (as := [vA G 3, vA G 5]) (st := []) 7 2 e_X11_seasons_2.2.2.2.2.2.2.2.2.1 (kCVof m_X7_readAll l_X11_179) rfl (by decide) (kS_self isS_71) (by decide) (by decide) rfl rfl (by show (0 : Nat) ≤ 8; decide) ?_
        refine Run.mono h (fun r9 s10 h => ?_)
        refine R_eqs (st2 := [vI r9]) rfl rfl ?_
        refine R_istore_n (ls2 := [(2, vI r9), (0, vA G 0), (1, vI l1)]) e_X11_seasons_2.2.2.2.2.2.2.2.2.2 (by decide) rfl ?_
        refine R_iload_n e_X11_seasons_3.1 0 rfl ?_
        obtain ⟨q11, h⟩ := h
        refine R_if_ne 69 e_X11_seasons_3.2.1 (by decide) q11  (fun q => ?_) (fun q => ?_)
        · replace h := h.1 q
          refine R_aload_n e_X11_seasons_3.2.2.2.2.2.2.1 1 rfl ?_
          refine R_getA 11 11 64 e_X11_seasons_3.2.2.2.2.2.2.2.1 f_X11_71 kx_0 (fun _ _ => rfl) rx_0_11 (by decide) ?_
          refine R_aload_n e_X11_seasons_3.2.2.2.2.2.2.2.2.1 1 rfl ?_
          refine R_getA 11 12 71 e_X11_seasons_3.2.2.2.2.2.2.2.2.2 f_X11_75 kx_0 (fun _ _ => rfl) rx_0_12 (by decide) ?_
          refine R_callV (mc := 0) (ms := 0) (mc' := 0) (ms' := 0) (M' := M_X7_copy) (d' := 1) (as := [vA G 71]) (st := []) 7 1 e_X11_seasons_4.1 (kCVof m_X7_copy l_X11_182) rfl (by decide) (kS_self isS_64) (by decide) (by decide) rfl rfl (by show (0 : Nat) ≤ 8; decide) ?_
          refine Run.mono h (fun r12 s13 h => ?_)
          refine R_eqs (st2 := []) rfl rfl ?_
          refine R_aload_n e_X11_seasons_4.2.1 1 rfl ?_
          refine R_aload_n e_X11_seasons_4.2.2.1 1 rfl ?_
          refine R_getA 11 11 64 e_X11_seasons_4.2.2.2.1 f_X11_71 kx_0 (fun _ _ => rfl) rx_0_11 (by decide) ?_
          refine R_getI 7 1 1 e_X11_seasons_4.2.2.2.2.1 f_X11_185 (kS_self isS_64) (fun _ _ => rfl) rfl ?_
          refine R_callV (mc := 0) (ms := 0) (mc' := 0) (ms' := 0) (M' := M_X11_give) (d' := 0) (as := [vI (s13 64 1)]) (st := []) 11 1 e_X11_seasons_4.2.2.2.2.2.1 (kCVof m_X11_give l_X11_176) rfl (by decide) kx_0 (by decide) (by decide) rfl rfl (by show (0 : Nat) ≤ 8; decide) ?_
          refine Run.mono h (fun r14 s15 h => ?_)
          refine R_eqs (st2 := [vI r14]) rfl rfl ?_
          exact R_ireturn e_X11_seasons_4.2.2.2.2.2.2 rfl h
        · replace h := h.2 q
          refine R_aload_n e_X11_seasons_3.2.2.1 1 rfl ?_
          refine R_bipush e_X11_seasons_3.2.2.2.1 (by decide) ?_
          refine R_callV (mc := 0) (ms := 0) (mc' := 0) (ms' := 0) (M' := M_X11_deny) (d' := 0) (as := [vI 9]) (st := []) 11 1 e_X11_seasons_3.2.2.2.2.1 (kCVof m_X11_deny l_X11_132) rfl (by decide) kx_0 (by decide) (by decide) rfl rfl (by show (0 : Nat) ≤ 8; decide) ?_
          refine Run.mono h (fun r16 s17 h => ?_)
          refine R_eqs (st2 := [vI r16]) rfl rfl ?_
          exact R_ireturn e_X11_seasons_3.2.2.2.2.2.1 rfl h
      · replace h := h.2 q
        refine R_aload_n e_X11_seasons_0.2.2.2.2.2.2.2.2.2 0 rfl ?_
        refine R_iconst e_X11_seasons_1.1 ?_
        refine R_callV (mc := 0) (ms := 0) (mc' := 0) (ms' := 0) (M' := M_X11_deny) (d' := 0) (as := [vI 1]) (st := []) 11 1 e_X11_seasons_1.2.1 (kCVof m_X11_deny l_X11_132) rfl (by decide) kx_0 (by decide) (by decide) rfl rfl (by show (0 : Nat) ≤ 8; decide) ?_
        refine Run.mono h (fun r18 s19 h => ?_)
        refine R_eqs (st2 := [vI r18]) rfl rfl ?_
        exact R_ireturn e_X11_seasons_1.2.2.1 rfl h
/-! KiteLand.fault(I)I -/
theorem e_X11_fault_0 : decode cX11_fault 0 = .ok (.iload_n 1, 1) ∧ decode cX11_fault 1 = .ok (.ifCond .ne 13, 3) ∧ decode cX11_fault 4 = .ok (.aload_n 0, 1) ∧ decode cX11_fault 5 = .ok (.getfield 36, 3) ∧ decode cX11_fault 8 = .ok (.getfield 188, 3) ∧ decode cX11_fault 11 = .ok (.goto 19, 3) ∧ decode cX11_fault 14 = .ok (.iload_n 1, 1) ∧ decode cX11_fault 15 = .ok (.iconst 1, 1) ∧ decode cX11_fault 16 = .ok (.if_icmp .ne 13, 3) ∧ decode cX11_fault 19 = .ok (.aload_n 0, 1) := by decide +kernel
theorem e_X11_fault_1 : decode cX11_fault 20 = .ok (.getfield 36, 3) ∧ decode cX11_fault 23 = .ok (.getfield 191, 3) ∧ decode cX11_fault 26 = .ok (.goto 4, 3) ∧ decode cX11_fault 29 = .ok (.iconst (-1), 1) ∧ decode cX11_fault 30 = .ok (.ireturn, 1) := by decide +kernel
theorem S_X11_fault {G : Kg} {σ : Kmem} {Q : Int → Kmem → Prop} {l1 : Int}  (h : (rI l1) ∧ ((l1 ≠ 0 → ((l1 ≠ 1 → Q (-1) σ) ∧ (l1 = 1 → Q (σ 3 9) σ))) ∧ (l1 = 0 → Q (σ 3 8) σ))) : Run G WX M_X11_fault 0 0 0 [vA G 0, vI l1] σ Q := by
  refine Run.of (by decide +kernel) (by show (2 : Nat) ≤ 2; decide) ?_
  show Ex G WX M_X11_fault 0 0 0 0 [(0, vA G 0), (1, vI l1)] [] σ Q
  refine R_iload_n e_X11_fault_0.1 1 rfl ?_
  obtain ⟨q1, h⟩ := h
  refine R_if_ne 14 e_X11_fault_0.2.1 (by decide) q1  (fun q => ?_) (fun q => ?_)
  · replace h := h.1 q
    refine R_iload_n e_X11_fault_0.2.2.2.2.2.2.1 1 rfl ?_
    refine R_iconst e_X11_fault_0.2.2.2.2.2.2.2.1 ?_
    refine R_icmp_ne 29 e_X11_fault_0.2.2.2.2.2.2.2.2.1 (by decide) q1 (by decide) (fun q => ?_) (fun q => ?_)
    · replace h := h.1 q
      refine R_iconst e_X11_fault_1.2.2.2.1 ?_
      exact R_ireturn e_X11_fault_1.2.2.2.2 rfl h
    · replace h := h.2 q
      refine R_aload_n e_X11_fault_0.2.2.2.2.2.2.2.2.2 0 rfl ?_
      refine R_getA 11 6 3 e_X11_fault_1.1 f_X11_36 kx_0 (fun _ _ => rfl) rx_0_6 (by decide) ?_
      refine R_getI 6 9 9 e_X11_fault_1.2.1 f_X11_191 kx_3 (fun _ _ => rfl) rfl ?_
      refine R_goto 30 e_X11_fault_1.2.2.1 (by decide) ?_
      exact R_ireturn e_X11_fault_1.2.2.2.2 rfl h
  · replace h := h.2 q
    refine R_aload_n e_X11_fault_0.2.2.1 0 rfl ?_
    refine R_getA 11 6 3 e_X11_fault_0.2.2.2.1 f_X11_36 kx_0 (fun _ _ => rfl) rx_0_6 (by decide) ?_
    refine R_getI 6 8 8 e_X11_fault_0.2.2.2.2.1 f_X11_188 kx_3 (fun _ _ => rfl) rfl ?_
    refine R_goto 30 e_X11_fault_0.2.2.2.2.2.1 (by decide) ?_
    exact R_ireturn e_X11_fault_1.2.2.2.2 rfl h
/-! KiteLand.told(I)I -/
theorem e_X11_told_0 : decode cX11_told 0 = .ok (.iload_n 1, 1) ∧ decode cX11_told 1 = .ok (.tableswitch 195 0 10 #[59, 71, 83, 95, 107, 119, 131, 143, 155, 171, 183], 59) ∧ decode cX11_told 60 = .ok (.aload_n 0, 1) ∧ decode cX11_told 61 = .ok (.aload_n 0, 1) ∧ decode cX11_told 62 = .ok (.getfield 43, 3) ∧ decode cX11_told 65 = .ok (.getfield 194, 3) ∧ decode cX11_told 68 = .ok (.invokevirtual 176, 3) ∧ decode cX11_told 71 = .ok (.ireturn, 1) ∧ decode cX11_told 72 = .ok (.aload_n 0, 1) ∧ decode cX11_told 73 = .ok (.aload_n 0, 1) := by decide +kernel
theorem e_X11_told_1 : decode cX11_told 74 = .ok (.getfield 43, 3) ∧ decode cX11_told 77 = .ok (.getfield 197, 3) ∧ decode cX11_told 80 = .ok (.invokevirtual 176, 3) ∧ decode cX11_told 83 = .ok (.ireturn, 1) ∧ decode cX11_told 84 = .ok (.aload_n 0, 1) ∧ decode cX11_told 85 = .ok (.aload_n 0, 1) ∧ decode cX11_told 86 = .ok (.getfield 43, 3) ∧ decode cX11_told 89 = .ok (.getfield 173, 3) ∧ decode cX11_told 92 = .ok (.invokevirtual 176, 3) ∧ decode cX11_told 95 = .ok (.ireturn, 1) := by decide +kernel
theorem e_X11_told_2 : decode cX11_told 96 = .ok (.aload_n 0, 1) ∧ decode cX11_told 97 = .ok (.aload_n 0, 1) ∧ decode cX11_told 98 = .ok (.getfield 43, 3) ∧ decode cX11_told 101 = .ok (.getfield 200, 3) ∧ decode cX11_told 104 = .ok (.invokevirtual 176, 3) ∧ decode cX11_told 107 = .ok (.ireturn, 1) ∧ decode cX11_told 108 = .ok (.aload_n 0, 1) ∧ decode cX11_told 109 = .ok (.aload_n 0, 1) ∧ decode cX11_told 110 = .ok (.getfield 43, 3) ∧ decode cX11_told 113 = .ok (.getfield 203, 3) := by decide +kernel
theorem e_X11_told_3 : decode cX11_told 116 = .ok (.invokevirtual 176, 3) ∧ decode cX11_told 119 = .ok (.ireturn, 1) ∧ decode cX11_told 120 = .ok (.aload_n 0, 1) ∧ decode cX11_told 121 = .ok (.aload_n 0, 1) ∧ decode cX11_told 122 = .ok (.getfield 43, 3) ∧ decode cX11_told 125 = .ok (.getfield 206, 3) ∧ decode cX11_told 128 = .ok (.invokevirtual 176, 3) ∧ decode cX11_told 131 = .ok (.ireturn, 1) ∧ decode cX11_told 132 = .ok (.aload_n 0, 1) ∧ decode cX11_told 133 = .ok (.aload_n 0, 1) := by decide +kernel
theorem e_X11_told_4 : decode cX11_told 134 = .ok (.getfield 43, 3) ∧ decode cX11_told 137 = .ok (.getfield 209, 3) ∧ decode cX11_told 140 = .ok (.invokevirtual 176, 3) ∧ decode cX11_told 143 = .ok (.ireturn, 1) ∧ decode cX11_told 144 = .ok (.aload_n 0, 1) ∧ decode cX11_told 145 = .ok (.aload_n 0, 1) ∧ decode cX11_told 146 = .ok (.getfield 43, 3) ∧ decode cX11_told 149 = .ok (.getfield 212, 3) ∧ decode cX11_told 152 = .ok (.invokevirtual 176, 3) ∧ decode cX11_told 155 = .ok (.ireturn, 1) := by decide +kernel
theorem e_X11_told_5 : decode cX11_told 156 = .ok (.aload_n 0, 1) ∧ decode cX11_told 157 = .ok (.invokevirtual 215, 3) ∧ decode cX11_told 160 = .ok (.aload_n 0, 1) ∧ decode cX11_told 161 = .ok (.aload_n 0, 1) ∧ decode cX11_told 162 = .ok (.getfield 64, 3) ∧ decode cX11_told 165 = .ok (.getfield 218, 3) ∧ decode cX11_told 168 = .ok (.invokevirtual 176, 3) ∧ decode cX11_told 171 = .ok (.ireturn, 1) ∧ decode cX11_told 172 = .ok (.aload_n 0, 1) ∧ decode cX11_told 173 = .ok (.aload_n 0, 1) := by decide +kernel
theorem e_X11_told_6 : decode cX11_told 174 = .ok (.getfield 43, 3) ∧ decode cX11_told 177 = .ok (.invokevirtual 221, 3) ∧ decode cX11_told 180 = .ok (.invokevirtual 176, 3) ∧ decode cX11_told 183 = .ok (.ireturn, 1) ∧ decode cX11_told 184 = .ok (.aload_n 0, 1) ∧ decode cX11_told 185 = .ok (.aload_n 0, 1) ∧ decode cX11_told 186 = .ok (.getfield 43, 3) ∧ decode cX11_told 189 = .ok (.invokevirtual 225, 3) ∧ decode cX11_told 192 = .ok (.invokevirtual 176, 3) ∧ decode cX11_told 195 = .ok (.ireturn, 1) := by decide +kernel
theorem e_X11_told_7 : decode cX11_told 196 = .ok (.aload_n 0, 1) ∧ decode cX11_told 197 = .ok (.iconst 1, 1) ∧ decode cX11_told 198 = .ok (.invokevirtual 132, 3) ∧ decode cX11_told 201 = .ok (.ireturn, 1) := by decide +kernel
theorem S_X11_told {G : Kg} {σ : Kmem} {Q : Int → Kmem → Prop} {l1 : Int}  (h : (rI l1) ∧ ((l1 = 0 → Run G WX M_X11_give 0 0 0 [vA G 0, vI (σ 5 0)] σ (fun r2 s3 => Q r2 s3)) ∧ (l1 = 1 → Run G WX M_X11_give 0 0 0 [vA G 0, vI (σ 5 1)] σ (fun r4 s5 => Q r4 s5)) ∧ (l1 = 2 → Run G WX M_X11_give 0 0 0 [vA G 0, vI (σ 5 5)] σ (fun r6 s7 => Q r6 s7)) ∧ (l1 = 3 → Run G WX M_X11_give 0 0 0 [vA G 0, vI (σ 5 6)] σ (fun r8 s9 => Q r8 s9)) ∧ (l1 = 4 → Run G WX M_X11_give 0 0 0 [vA G 0, vI (σ 5 7)] σ (fun r10 s11 => Q r10 s11)) ∧ (l1 = 5 → Run G WX M_X11_give 0 0 0 [vA G 0, vI (σ 5 2)] σ (fun r12 s13 => Q r12 s13)) ∧ (l1 = 6 → Run G WX M_X11_give 0 0 0 [vA G 0, vI (σ 5 3)] σ (fun r14 s15 => Q r14 s15)) ∧ (l1 = 7 → Run G WX M_X11_give 0 0 0 [vA G 0, vI (σ 5 4)] σ (fun r16 s17 => Q r16 s17)) ∧ (l1 = 8 → Run G WX M_X11_lookNow 4 0 0 [vA G 0] σ (fun r18 s19 => Run G WX M_X11_give 0 0 0 [vA G 0, vI (s19 58 1)] s19 (fun r20 s21 => Q r20 s21))) ∧ (l1 = 9 → Run G WX M_X0_cutSet 0 0 0 [vA G 5] σ (fun r22 s23 => Run G WX M_X11_give 0 0 0 [vA G 0, vI r22] s23 (fun r24 s25 => Q r24 s25))) ∧ (l1 = 10 → Run G WX M_X0_ripeSet 1 0 0 [vA G 5] σ (fun r26 s27 => Run G WX M_X11_give 0 0 0 [vA G 0, vI r26] s27 (fun r28 s29 => Q r28 s29))) ∧ (l1 < 0 ∨ 10 < l1 → Run G WX M_X11_deny 0 0 0 [vA G 0, vI 1] σ (fun r30 s31 => Q r30 s31)))) : Run G WX M_X11_told 5 0 0 [vA G 0, vI l1] σ Q := by
  refine Run.of (by decide +kernel) (by show (2 : Nat) ≤ 2; decide) ?_
  show Ex G WX M_X11_told 5 0 0 0 [(0, vA G 0), (1, vI l1)] [] σ Q
  refine R_iload_n e_X11_told_0.1 1 rfl ?_
  obtain ⟨q1, h⟩ := h
  by_cases t0 : l1 = 0
  · refine R_tableIn 60 e_X11_told_0.2.1 q1 (by omega) (by omega) (off := 59) (by rw [t0]; rfl) (by decide) ?_
    replace h := h.1 t0
    refine R_aload_n e_X11_told_0.2.2.1 0 rfl ?_
    refine R_aload_n e_X11_told_0.2.2.2.1 0 rfl ?_
    refine R_getA 11 7 5 e_X11_told_0.2.2.2.2.1 f_X11_43 kx_0 (fun _ _ => rfl) rx_0_7 (by decide) ?_
    refine R_getI 0 0 0 e_X11_told_0.2.2.2.2.2.1 f_X11_194 (kC_self isC_5) (fun _ _ => rfl) rfl ?_
    refine R_callV (mc := 0) (ms := 0) (mc' := 0) (ms' := 0) (M' := M_X11_give) (d' := 0) (as := [vI (σ 5 0)]) (st := []) 11 1 e_X11_told_0.2.2.2.2.2.2.1 (kCVof m_X11_give l_X11_176) rfl (by decide) kx_0 (by decide) (by decide) rfl rfl (by show (0 : Nat) ≤ 8; decide) ?_
    refine Run.mono h (fun r2 s3 h => ?_)
    refine R_eqs (st2 := [vI r2]) rfl rfl ?_
    exact R_ireturn e_X11_told_0.2.2.2.2.2.2.2.1 rfl h
  by_cases t1 : l1 = 1
  · refine R_tableIn 72 e_X11_told_0.2.1 q1 (by omega) (by omega) (off := 71) (by rw [t1]; rfl) (by decide) ?_
    replace h := h.2.1 t1
    refine R_aload_n e_X11_told_0.2.2.2.2.2.2.2.2.1 0 rfl ?_
    refine R_aload_n e_X11_told_0.2.2.2.2.2.2.2.2.2 0 rfl ?_
    refine R_getA 11 7 5 e_X11_told_1.1 f_X11_43 kx_0 (fun _ _ => rfl) rx_0_7 (by decide) ?_
    refine R_getI 0 1 1 e_X11_told_1.2.1 f_X11_197 (kC_self isC_5) (fun _ _ => rfl) rfl ?_
    refine R_callV (mc := 0) (ms := 0) (mc' := 0) (ms' := 0) (M' := M_X11_give) (d' := 0) (as := [vI (σ 5 1)]) (st := []) 11 1 e_X11_told_1.2.2.1 (kCVof m_X11_give l_X11_176) rfl (by decide) kx_0 (by decide) (by decide) rfl rfl (by show (0 : Nat) ≤ 8; decide) ?_
    refine Run.mono h (fun r4 s5 h => ?_)
    refine R_eqs (st2 := [vI r4]) rfl rfl ?_
    exact R_ireturn e_X11_told_1.2.2.2.1 rfl h
  by_cases t2 : l1 = 2
  · refine R_tableIn 84 e_X11_told_0.2.1 q1 (by omega) (by omega) (off := 83) (by rw [t2]; rfl) (by decide) ?_
    replace h := h.2.2.1 t2
    refine R_aload_n e_X11_told_1.2.2.2.2.1 0 rfl ?_
    refine R_aload_n e_X11_told_1.2.2.2.2.2.1 0 rfl ?_
    refine R_getA 11 7 5 e_X11_told_1.2.2.2.2.2.2.1 f_X11_43 kx_0 (fun _ _ => rfl) rx_0_7 (by decide) ?_
    refine R_getI 0 5 5 e_X11_told_1.2.2.2.2.2.2.2.1 f_X11_173 (kC_self isC_5) (fun _ _ => rfl) rfl ?_
    refine R_callV (mc := 0) (ms := 0) (mc' := 0) (ms' := 0) (M' := M_X11_give) (d' := 0) (as := [vI (σ 5 5)]) (st := []) 11 1 e_X11_told_1.2.2.2.2.2.2.2.2.1 (kCVof m_X11_give l_X11_176) rfl (by decide) kx_0 (by decide) (by decide) rfl rfl (by show (0 : Nat) ≤ 8; decide) ?_
    refine Run.mono h (fun r6 s7 h => ?_)
    refine R_eqs (st2 := [vI r6]) rfl rfl ?_
    exact R_ireturn e_X11_told_1.2.2.2.2.2.2.2.2.2 rfl h
  by_cases t3 : l1 = 3
  · refine R_tableIn 96 e_X11_told_0.2.1 q1 (by omega) (by omega) (off := 95) (by rw [t3]; rfl) (by decide) ?_
    replace h := h.2.2.2.1 t3
    refine R_aload_n e_X11_told_2.1 0 rfl ?_
    refine R_aload_n e_X11_told_2.2.1 0 rfl ?_
    refine R_getA 11 7 5 e_X11_told_2.2.2.1 f_X11_43 kx_0 (fun _ _ => rfl) rx_0_7 (by decide) ?_
    refine R_getI 0 6 6 e_X11_told_2.2.2.2.1 f_X11_200 (kC_self isC_5) (fun _ _ => rfl) rfl ?_
    refine R_callV (mc := 0) (ms := 0) (mc' := 0) (ms' := 0) (M' := M_X11_give) (d' := 0) (as := [vI (σ 5 6)]) (st := []) 11 1 e_X11_told_2.2.2.2.2.1 (kCVof m_X11_give l_X11_176) rfl (by decide) kx_0 (by decide) (by decide) rfl rfl (by show (0 : Nat) ≤ 8; decide) ?_
    refine Run.mono h (fun r8 s9 h => ?_)
    refine R_eqs (st2 := [vI r8]) rfl rfl ?_
    exact R_ireturn e_X11_told_2.2.2.2.2.2.1 rfl h
  by_cases t4 : l1 = 4
  · refine R_tableIn 108 e_X11_told_0.2.1 q1 (by omega) (by omega) (off := 107) (by rw [t4]; rfl) (by decide) ?_
    replace h := h.2.2.2.2.1 t4
    refine R_aload_n e_X11_told_2.2.2.2.2.2.2.1 0 rfl ?_
    refine R_aload_n e_X11_told_2.2.2.2.2.2.2.2.1 0 rfl ?_
    refine R_getA 11 7 5 e_X11_told_2.2.2.2.2.2.2.2.2.1 f_X11_43 kx_0 (fun _ _ => rfl) rx_0_7 (by decide) ?_
    refine R_getI 0 7 7 e_X11_told_2.2.2.2.2.2.2.2.2.2 f_X11_203 (kC_self isC_5) (fun _ _ => rfl) rfl ?_
    refine R_callV (mc := 0) (ms := 0) (mc' := 0) (ms' := 0) (M' := M_X11_give) (d' := 0) (as := [vI (σ 5 7)]) (st := []) 11 1 e_X11_told_3.1 (kCVof m_X11_give l_X11_176) rfl (by decide) kx_0 (by decide) (by decide) rfl rfl (by show (0 : Nat) ≤ 8; decide) ?_
    refine Run.mono h (fun r10 s11 h => ?_)
    refine R_eqs (st2 := [vI r10]) rfl rfl ?_
    exact R_ireturn e_X11_told_3.2.1 rfl h
  by_cases t5 : l1 = 5
  · refine R_tableIn 120 e_X11_told_0.2.1 q1 (by omega) (by omega) (off := 119) (by rw [t5]; rfl) (by decide) ?_
    replace h := h.2.2.2.2.2.1 t5
    refine R_aload_n e_X11_told_3.2.2.1 0 rfl ?_
    refine R_aload_n e_X11_told_3.2.2.2.1 0 rfl ?_
    refine R_getA 11 7 5 e_X11_told_3.2.2.2.2.1 f_X11_43 kx_0 (fun _ _ => rfl) rx_0_7 (by decide) ?_
    refine R_getI 0 2 2 e_X11_told_3.2.2.2.2.2.1 f_X11_206 (kC_self isC_5) (fun _ _ => rfl) rfl ?_
    refine R_callV (mc := 0) (ms := 0) (mc' := 0) (ms' := 0) (M' := M_X11_give) (d' := 0) (as := [vI (σ 5 2)]) (st := []) 11 1 e_X11_told_3.2.2.2.2.2.2.1 (kCVof m_X11_give l_X11_176) rfl (by decide) kx_0 (by decide) (by decide) rfl rfl (by show (0 : Nat) ≤ 8; decide) ?_
    refine Run.mono h (fun r12 s13 h => ?_)
    refine R_eqs (st2 := [vI r12]) rfl rfl ?_
    exact R_ireturn e_X11_told_3.2.2.2.2.2.2.2.1 rfl h
  by_cases t6 : l1 = 6
  · refine R_tableIn 132 e_X11_told_0.2.1 q1 (by omega) (by omega) (off := 131) (by rw [t6]; rfl) (by decide) ?_
    replace h := h.2.2.2.2.2.2.1 t6
    refine R_aload_n e_X11_told_3.2.2.2.2.2.2.2.2.1 0 rfl ?_
    refine R_aload_n e_X11_told_3.2.2.2.2.2.2.2.2.2 0 rfl ?_
    refine R_getA 11 7 5 e_X11_told_4.1 f_X11_43 kx_0 (fun _ _ => rfl) rx_0_7 (by decide) ?_
    refine R_getI 0 3 3 e_X11_told_4.2.1 f_X11_209 (kC_self isC_5) (fun _ _ => rfl) rfl ?_
    refine R_callV (mc := 0) (ms := 0) (mc' := 0) (ms' := 0) (M' := M_X11_give) (d' := 0) (as := [vI (σ 5 3)]) (st := []) 11 1 e_X11_told_4.2.2.1 (kCVof m_X11_give l_X11_176) rfl (by decide) kx_0 (by decide) (by decide) rfl rfl (by show (0 : Nat) ≤ 8; decide) ?_
    refine Run.mono h (fun r14 s15 h => ?_)
    refine R_eqs (st2 := [vI r14]) rfl rfl ?_
    exact R_ireturn e_X11_told_4.2.2.2.1 rfl h
  by_cases t7 : l1 = 7
  · refine R_tableIn 144 e_X11_told_0.2.1 q1 (by omega) (by omega) (off := 143) (by rw [t7]; rfl) (by decide) ?_
    replace h := h.2.2.2.2.2.2.2.1 t7
    refine R_aload_n e_X11_told_4.2.2.2.2.1 0 rfl ?_
    refine R_aload_n e_X11_told_4.2.2.2.2.2.1 0 rfl ?_
    refine R_getA 11 7 5 e_X11_told_4.2.2.2.2.2.2.1 f_X11_43 kx_0 (fun _ _ => rfl) rx_0_7 (by decide) ?_
    refine R_getI 0 4 4 e_X11_told_4.2.2.2.2.2.2.2.1 f_X11_212 (kC_self isC_5) (fun _ _ => rfl) rfl ?_
    refine R_callV (mc := 0) (ms := 0) (mc' := 0) (ms' := 0) (M' := M_X11_give) (d' := 0) (as := [vI (σ 5 4)]) (st := []) 11 1 e_X11_told_4.2.2.2.2.2.2.2.2.1 (kCVof m_X11_give l_X11_176) rfl (by decide) kx_0 (by decide) (by decide) rfl rfl (by show (0 : Nat) ≤ 8; decide) ?_
    refine Run.mono h (fun r16 s17 h => ?_)
    refine R_eqs (st2 := [vI r16]) rfl rfl ?_
    exact R_ireturn e_X11_told_4.2.2.2.2.2.2.2.2.2 rfl h
  by_cases t8 : l1 = 8
  · refine R_tableIn 156 e_X11_told_0.2.1 q1 (by omega) (by omega) (off := 155) (by rw [t8]; rfl) (by decide) ?_
    replace h := h.2.2.2.2.2.2.2.2.1 t8
    refine R_aload_n e_X11_told_5.1 0 rfl ?_
    refine R_callV (mc := 0) (ms := 0) (mc' := 0) (ms' := 0) (M' := M_X11_lookNow) (d' := 4) (as := []) (st := []) 11 0 e_X11_told_5.2.1 (kCVof m_X11_lookNow l_X11_215) rfl (by decide) kx_0 (by decide) (by decide) rfl rfl (by show (0 : Nat) ≤ 8; decide) ?_
    refine Run.mono h (fun r18 s19 h => ?_)
    refine R_eqs (st2 := []) rfl rfl ?_
    refine R_aload_n e_X11_told_5.2.2.1 0 rfl ?_
    refine R_aload_n e_X11_told_5.2.2.2.1 0 rfl ?_
    refine R_getA 11 10 58 e_X11_told_5.2.2.2.2.1 f_X11_64 kx_0 (fun _ _ => rfl) rx_0_10 (by decide) ?_
    refine R_getI 8 1 1 e_X11_told_5.2.2.2.2.2.1 f_X11_218 kx_58 (fun _ _ => rfl) rfl ?_
    refine R_callV (mc := 0) (ms := 0) (mc' := 0) (ms' := 0) (M' := M_X11_give) (d' := 0) (as := [vI (s19 58 1)]) (st := []) 11 1 e_X11_told_5.2.2.2.2.2.2.1 (kCVof m_X11_give l_X11_176) rfl (by decide) kx_0 (by decide) (by decide) rfl rfl (by show (0 : Nat) ≤ 8; decide) ?_
    refine Run.mono h (fun r20 s21 h => ?_)
    refine R_eqs (st2 := [vI r20]) rfl rfl ?_
    exact R_ireturn e_X11_told_5.2.2.2.2.2.2.2.1 rfl h
  by_cases t9 : l1 = 9
  · refine R_tableIn 172 e_X11_told_0.2.1 q1 (by omega) (by omega) (off := 171) (by rw [t9]; rfl) (by decide) ?_
    replace h := h.2.2.2.2.2.2.2.2.2.1 t9
    refine R_aload_n e_X11_told_5.2.2.2.2.2.2.2.2.1 0 rfl ?_
    refine R_aload_n e_X11_told_5.2.2.2.2.2.2.2.2.2 0 rfl ?_
    refine R_getA 11 7 5 e_X11_told_6.1 f_X11_43 kx_0 (fun _ _ => rfl) rx_0_7 (by decide) ?_
    refine R_callV (mc := 0) (ms := 0) (mc' := 0) (ms' := 0) (M' := M_X0_cutSet) (d' := 0) (as := []) (st := [vA G 0]) 0 0 e_X11_told_6.2.1 (kCVof m_X0_cutSet l_X11_221) rfl (by decide) (kC_self isC_5) (by decide) (by decide) rfl rfl (by show (1 : Nat) ≤ 8; decide) ?_
    refine Run.mono h (fun r22 s23 h => ?_)
    refine R_eqs (st2 := [vI r22, vA G 0]) rfl rfl ?_
    refine R_callV (mc := 0) (ms := 0) (mc' := 0) (ms' := 0) (M' := M_X11_give) (d' := 0) (as := [vI r22]) (st := []) 11 1 e_X11_told_6.2.2.1 (kCVof m_X11_give l_X11_176) rfl (by decide) kx_0 (by decide) (by decide) rfl rfl (by show (0 : Nat) ≤ 8; decide) ?_
    refine Run.mono h (fun r24 s25 h => ?_)
    refine R_eqs (st2 := [vI r24]) rfl rfl ?_
    exact R_ireturn e_X11_told_6.2.2.2.1 rfl h
  by_cases t10 : l1 = 10
  · refine R_tableIn 184 e_X11_told_0.2.1 q1 (by omega) (by omega) (off := 183) (by rw [t10]; rfl) (by decide) ?_
    replace h := h.2.2.2.2.2.2.2.2.2.2.1 t10
    refine R_aload_n e_X11_told_6.2.2.2.2.1 0 rfl ?_
    refine R_aload_n e_X11_told_6.2.2.2.2.2.1 0 rfl ?_
    refine R_getA 11 7 5 e_X11_told_6.2.2.2.2.2.2.1 f_X11_43 kx_0 (fun _ _ => rfl) rx_0_7 (by decide) ?_
    refine R_callV (mc := 0) (ms := 0) (mc' := 0) (ms' := 0) (M' := M_X0_ripeSet) (d' := 1) (as := []) (st := [vA G 0]) 0 0 e_X11_told_6.2.2.2.2.2.2.2.1 (kCVof m_X0_ripeSet l_X11_225) rfl (by decide) (kC_self isC_5) (by decide) (by decide) rfl rfl (by show (1 : Nat) ≤ 8; decide) ?_
    refine Run.mono h (fun r26 s27 h => ?_)
    refine R_eqs (st2 := [vI r26, vA G 0]) rfl rfl ?_
    refine R_callV (mc := 0) (ms := 0) (mc' := 0) (ms' := 0) (M' := M_X11_give) (d' := 0) (as := [vI r26]) (st := []) 11 1 e_X11_told_6.2.2.2.2.2.2.2.2.1 (kCVof m_X11_give l_X11_176) rfl (by decide) kx_0 (by decide) (by decide) rfl rfl (by show (0 : Nat) ≤ 8; decide) ?_
    refine Run.mono h (fun r28 s29 h => ?_)
    refine R_eqs (st2 := [vI r28]) rfl rfl ?_
    exact R_ireturn e_X11_told_6.2.2.2.2.2.2.2.2.2 rfl h
  refine R_tableOut 196 e_X11_told_0.2.1 q1 (by omega) (by decide) ?_
  replace h := h.2.2.2.2.2.2.2.2.2.2.2 (by omega)
  refine R_aload_n e_X11_told_7.1 0 rfl ?_
  refine R_iconst e_X11_told_7.2.1 ?_
  refine R_callV (mc := 0) (ms := 0) (mc' := 0) (ms' := 0) (M' := M_X11_deny) (d' := 0) (as := [vI 1]) (st := []) 11 1 e_X11_told_7.2.2.1 (kCVof m_X11_deny l_X11_132) rfl (by decide) kx_0 (by decide) (by decide) rfl rfl (by show (0 : Nat) ≤ 8; decide) ?_
  refine Run.mono h (fun r30 s31 h => ?_)
  refine R_eqs (st2 := [vI r30]) rfl rfl ?_
  exact R_ireturn e_X11_told_7.2.2.2 rfl h
/-! KiteLand.wind(II)I -/
theorem e_X11_wind_0 : decode cX11_wind 0 = .ok (.aload_n 0, 1) ∧ decode cX11_wind 1 = .ok (.iload_n 1, 1) ∧ decode cX11_wind 2 = .ok (.invokevirtual 228, 3) ∧ decode cX11_wind 5 = .ok (.ifCond .eq 12, 3) ∧ decode cX11_wind 8 = .ok (.iload_n 2, 1) ∧ decode cX11_wind 9 = .ok (.ifCond .lt 8, 3) ∧ decode cX11_wind 12 = .ok (.iload_n 2, 1) ∧ decode cX11_wind 13 = .ok (.iconst 1, 1) ∧ decode cX11_wind 14 = .ok (.if_icmp .le 9, 3) ∧ decode cX11_wind 17 = .ok (.aload_n 0, 1) := by decide +kernel
theorem e_X11_wind_1 : decode cX11_wind 18 = .ok (.iconst 1, 1) ∧ decode cX11_wind 19 = .ok (.invokevirtual 132, 3) ∧ decode cX11_wind 22 = .ok (.ireturn, 1) ∧ decode cX11_wind 23 = .ok (.aload_n 0, 1) ∧ decode cX11_wind 24 = .ok (.iload_n 2, 1) ∧ decode cX11_wind 25 = .ok (.ifCond .ne 15, 3) ∧ decode cX11_wind 28 = .ok (.aload_n 0, 1) ∧ decode cX11_wind 29 = .ok (.getfield 43, 3) ∧ decode cX11_wind 32 = .ok (.getfield 231, 3) ∧ decode cX11_wind 35 = .ok (.iload_n 1, 1) := by decide +kernel
theorem e_X11_wind_2 : decode cX11_wind 36 = .ok (.iaload, 1) ∧ decode cX11_wind 37 = .ok (.goto 12, 3) ∧ decode cX11_wind 40 = .ok (.aload_n 0, 1) ∧ decode cX11_wind 41 = .ok (.getfield 43, 3) ∧ decode cX11_wind 44 = .ok (.getfield 235, 3) ∧ decode cX11_wind 47 = .ok (.iload_n 1, 1) ∧ decode cX11_wind 48 = .ok (.iaload, 1) ∧ decode cX11_wind 49 = .ok (.invokevirtual 176, 3) ∧ decode cX11_wind 52 = .ok (.ireturn, 1) := by decide +kernel
theorem S_X11_wind {G : Kg} {σ : Kmem} {Q : Int → Kmem → Prop} {l1 l2 : Int}  (h : Run G WX M_X11_isHourOfDay 0 0 0 [vA G 0, vI l1] σ (fun r1 s2 => (rI r1) ∧ ((r1 = 0 → Run G WX M_X11_deny 0 0 0 [vA G 0, vI 1] s2 (fun r4 s5 => Q r4 s5)) ∧ (r1 ≠ 0 → (rI l2) ∧ ((l2 < 0 → Run G WX M_X11_deny 0 0 0 [vA G 0, vI 1] s2 (fun r7 s8 => Q r7 s8)) ∧ (0 ≤ l2 → ((l2 ≤ 1 → ((l2 ≠ 0 → (0 ≤ l1 ∧ l1 < 12) ∧ Run G WX M_X11_give 0 0 0 [vA G 0, vI (s2 (5 + 2) l1)] s2 (fun r10 s11 => Q r10 s11)) ∧ (l2 = 0 → (0 ≤ l1 ∧ l1 < 12) ∧ Run G WX M_X11_give 0 0 0 [vA G 0, vI (s2 (5 + 1) l1)] s2 (fun r13 s14 => Q r13 s14)))) ∧ (1 < l2 → Run G WX M_X11_deny 0 0 0 [vA G 0, vI 1] s2 (fun r15 s16 => Q r15 s16))))))))) : Run G WX M_X11_wind 1 0 0 [vA G 0, vI l1, vI l2] σ Q := by
  refine Run.of (by decide +kernel) (by show (3 : Nat) ≤ 3; decide) ?_
  show Ex G WX M_X11_wind 1 0 0 0 [(0, vA G 0), (1, vI l1), (2, vI l2)] [] σ Q
  refine R_aload_n e_X11_wind_0.1 0 rfl ?_
  refine R_iload_n e_X11_wind_0.2.1 1 rfl ?_
  refine R_callV (mc := 0) (ms := 0) (mc' := 0) (ms' := 0) (M' := M_X11_isHourOfDay) (d' := 0) (as := [vI l1]) (st := []) 11 1 e_X11_wind_0.2.2.1 (kCVof m_X11_isHourOfDay l_X11_228) rfl (by decide) kx_0 (by decide) (by decide) rfl rfl (by show (0 : Nat) ≤ 8; decide) ?_
  refine Run.mono h (fun r1 s2 h => ?_)
  refine R_eqs (st2 := [vI r1]) rfl rfl ?_
  obtain ⟨q3, h⟩ := h
  refine R_if_eq 17 e_X11_wind_0.2.2.2.1 (by decide) q3  (fun q => ?_) (fun q => ?_)
  · replace h := h.1 q
    refine R_aload_n e_X11_wind_0.2.2.2.2.2.2.2.2.2 0 rfl ?_
    refine R_iconst e_X11_wind_1.1 ?_
    refine R_callV (mc := 0) (ms := 0) (mc' := 0) (ms' := 0) (M' := M_X11_deny) (d' := 0) (as := [vI 1]) (st := []) 11 1 e_X11_wind_1.2.1 (kCVof m_X11_deny l_X11_132) rfl (by decide) kx_0 (by decide) (by decide) rfl rfl (by show (0 : Nat) ≤ 8; decide) ?_
    refine Run.mono h (fun r4 s5 h => ?_)
    refine R_eqs (st2 := [vI r4]) rfl rfl ?_
    exact R_ireturn e_X11_wind_1.2.2.1 rfl h
  · replace h := h.2 q
    refine R_iload_n e_X11_wind_0.2.2.2.2.1 2 rfl ?_
    obtain ⟨q6, h⟩ := h
    refine R_if_lt 17 e_X11_wind_0.2.2.2.2.2.1 (by decide) q6  (fun q => ?_) (fun q => ?_)
    · replace h := h.1 q
      refine R_aload_n e_X11_wind_0.2.2.2.2.2.2.2.2.2 0 rfl ?_
      refine R_iconst e_X11_wind_1.1 ?_
      refine R_callV (mc := 0) (ms := 0) (mc' := 0) (ms' := 0) (M' := M_X11_deny) (d' := 0) (as := [vI 1]) (st := []) 11 1 e_X11_wind_1.2.1 (kCVof m_X11_deny l_X11_132) rfl (by decide) kx_0 (by decide) (by decide) rfl rfl (by show (0 : Nat) ≤ 8; decide) ?_
      refine Run.mono h (fun r7 s8 h => ?_)
      refine R_eqs (st2 := [vI r7]) rfl rfl ?_
      exact R_ireturn e_X11_wind_1.2.2.1 rfl h
    · replace h := h.2 q
      refine R_iload_n e_X11_wind_0.2.2.2.2.2.2.1 2 rfl ?_
      refine R_iconst e_X11_wind_0.2.2.2.2.2.2.2.1 ?_
      refine R_icmp_le 23 e_X11_wind_0.2.2.2.2.2.2.2.2.1 (by decide) q6 (by decide) (fun q => ?_) (fun q => ?_)
      · replace h := h.1 q
        refine R_aload_n e_X11_wind_1.2.2.2.1 0 rfl ?_
        refine R_iload_n e_X11_wind_1.2.2.2.2.1 2 rfl ?_
        refine R_if_ne 40 e_X11_wind_1.2.2.2.2.2.1 (by decide) q6  (fun q => ?_) (fun q => ?_)
        · replace h := h.1 q
          refine R_aload_n e_X11_wind_2.2.2.1 0 rfl ?_
          refine R_getA 11 7 5 e_X11_wind_2.2.2.2.1 f_X11_43 kx_0 (fun _ _ => rfl) rx_0_7 (by decide) ?_
          refine R_getA 0 9 (5 + 2) e_X11_wind_2.2.2.2.2.1 f_X11_235 (kC_self isC_5) (fun _ _ => rfl) (kC_r9 isC_5) (kC_n2 isC_5) ?_
          refine R_iload_n e_X11_wind_2.2.2.2.2.2.1 1 rfl ?_
          obtain ⟨q9, h⟩ := h
          refine R_iald 12 e_X11_wind_2.2.2.2.2.2.2.1 (kC_forces isC_5) q9 ?_
          refine R_callV (mc := 0) (ms := 0) (mc' := 0) (ms' := 0) (M' := M_X11_give) (d' := 0) (as := [vI (s2 (5 + 2) l1)]) (st := []) 11 1 e_X11_wind_2.2.2.2.2.2.2.2.1 (kCVof m_X11_give l_X11_176) rfl (by decide) kx_0 (by decide) (by decide) rfl rfl (by show (0 : Nat) ≤ 8; decide) ?_
          refine Run.mono h (fun r10 s11 h => ?_)
          refine R_eqs (st2 := [vI r10]) rfl rfl ?_
          exact R_ireturn e_X11_wind_2.2.2.2.2.2.2.2.2 rfl h
        · replace h := h.2 q
          refine R_aload_n e_X11_wind_1.2.2.2.2.2.2.1 0 rfl ?_
          refine R_getA 11 7 5 e_X11_wind_1.2.2.2.2.2.2.2.1 f_X11_43 kx_0 (fun _ _ => rfl) rx_0_7 (by decide) ?_
          refine R_getA 0 8 (5 + 1) e_X11_wind_1.2.2.2.2.2.2.2.2.1 f_X11_231 (kC_self isC_5) (fun _ _ => rfl) (kC_r8 isC_5) (kC_n1 isC_5) ?_
          refine R_iload_n e_X11_wind_1.2.2.2.2.2.2.2.2.2 1 rfl ?_
          obtain ⟨q12, h⟩ := h
          refine R_iald 12 e_X11_wind_2.1 (kC_dirs isC_5) q12 ?_
          refine R_goto 49 e_X11_wind_2.2.1 (by decide) ?_
          refine R_callV (mc := 0) (ms := 0) (mc' := 0) (ms' := 0) (M' := M_X11_give) (d' := 0) (as := [vI (s2 (5 + 1) l1)]) (st := []) 11 1 e_X11_wind_2.2.2.2.2.2.2.2.1 (kCVof m_X11_give l_X11_176) rfl (by decide) kx_0 (by decide) (by decide) rfl rfl (by show (0 : Nat) ≤ 8; decide) ?_
          refine Run.mono h (fun r13 s14 h => ?_)
          refine R_eqs (st2 := [vI r13]) rfl rfl ?_
          exact R_ireturn e_X11_wind_2.2.2.2.2.2.2.2.2 rfl h
      · replace h := h.2 q
        refine R_aload_n e_X11_wind_0.2.2.2.2.2.2.2.2.2 0 rfl ?_
        refine R_iconst e_X11_wind_1.1 ?_
        refine R_callV (mc := 0) (ms := 0) (mc' := 0) (ms' := 0) (M' := M_X11_deny) (d' := 0) (as := [vI 1]) (st := []) 11 1 e_X11_wind_1.2.1 (kCVof m_X11_deny l_X11_132) rfl (by decide) kx_0 (by decide) (by decide) rfl rfl (by show (0 : Nat) ≤ 8; decide) ?_
        refine Run.mono h (fun r15 s16 h => ?_)
        refine R_eqs (st2 := [vI r15]) rfl rfl ?_
        exact R_ireturn e_X11_wind_1.2.2.1 rfl h
/-! KiteLand.kite(II)I -/
theorem e_X11_kite_0 : decode cX11_kite 0 = .ok (.aload_n 0, 1) ∧ decode cX11_kite 1 = .ok (.getfield 43, 3) ∧ decode cX11_kite 4 = .ok (.iload_n 1, 1) ∧ decode cX11_kite 5 = .ok (.invokevirtual 238, 3) ∧ decode cX11_kite 8 = .ok (.ifCond .ne 9, 3) ∧ decode cX11_kite 11 = .ok (.aload_n 0, 1) ∧ decode cX11_kite 12 = .ok (.iconst 1, 1) ∧ decode cX11_kite 13 = .ok (.invokevirtual 132, 3) ∧ decode cX11_kite 16 = .ok (.ireturn, 1) ∧ decode cX11_kite 17 = .ok (.aload_n 0, 1) := by decide +kernel
theorem e_X11_kite_1 : decode cX11_kite 18 = .ok (.getfield 43, 3) ∧ decode cX11_kite 21 = .ok (.getfield 241, 3) ∧ decode cX11_kite 24 = .ok (.iload_n 1, 1) ∧ decode cX11_kite 25 = .ok (.aaload, 1) ∧ decode cX11_kite 26 = .ok (.astore_n 3, 1) ∧ decode cX11_kite 27 = .ok (.iload_n 2, 1) ∧ decode cX11_kite 28 = .ok (.tableswitch 120 0 7 #[48, 57, 66, 75, 84, 93, 102, 111], 48) ∧ decode cX11_kite 76 = .ok (.aload_n 0, 1) ∧ decode cX11_kite 77 = .ok (.aload_n 3, 1) ∧ decode cX11_kite 78 = .ok (.getfield 245, 3) := by decide +kernel
theorem e_X11_kite_2 : decode cX11_kite 81 = .ok (.invokevirtual 176, 3) ∧ decode cX11_kite 84 = .ok (.ireturn, 1) ∧ decode cX11_kite 85 = .ok (.aload_n 0, 1) ∧ decode cX11_kite 86 = .ok (.aload_n 3, 1) ∧ decode cX11_kite 87 = .ok (.getfield 250, 3) ∧ decode cX11_kite 90 = .ok (.invokevirtual 176, 3) ∧ decode cX11_kite 93 = .ok (.ireturn, 1) ∧ decode cX11_kite 94 = .ok (.aload_n 0, 1) ∧ decode cX11_kite 95 = .ok (.aload_n 3, 1) ∧ decode cX11_kite 96 = .ok (.getfield 253, 3) := by decide +kernel
theorem e_X11_kite_3 : decode cX11_kite 99 = .ok (.invokevirtual 176, 3) ∧ decode cX11_kite 102 = .ok (.ireturn, 1) ∧ decode cX11_kite 103 = .ok (.aload_n 0, 1) ∧ decode cX11_kite 104 = .ok (.aload_n 3, 1) ∧ decode cX11_kite 105 = .ok (.getfield 256, 3) ∧ decode cX11_kite 108 = .ok (.invokevirtual 176, 3) ∧ decode cX11_kite 111 = .ok (.ireturn, 1) ∧ decode cX11_kite 112 = .ok (.aload_n 0, 1) ∧ decode cX11_kite 113 = .ok (.aload_n 3, 1) ∧ decode cX11_kite 114 = .ok (.getfield 259, 3) := by decide +kernel
theorem e_X11_kite_4 : decode cX11_kite 117 = .ok (.invokevirtual 176, 3) ∧ decode cX11_kite 120 = .ok (.ireturn, 1) ∧ decode cX11_kite 121 = .ok (.aload_n 0, 1) ∧ decode cX11_kite 122 = .ok (.aload_n 3, 1) ∧ decode cX11_kite 123 = .ok (.getfield 262, 3) ∧ decode cX11_kite 126 = .ok (.invokevirtual 176, 3) ∧ decode cX11_kite 129 = .ok (.ireturn, 1) ∧ decode cX11_kite 130 = .ok (.aload_n 0, 1) ∧ decode cX11_kite 131 = .ok (.aload_n 3, 1) ∧ decode cX11_kite 132 = .ok (.getfield 265, 3) := by decide +kernel
theorem e_X11_kite_5 : decode cX11_kite 135 = .ok (.invokevirtual 176, 3) ∧ decode cX11_kite 138 = .ok (.ireturn, 1) ∧ decode cX11_kite 139 = .ok (.aload_n 0, 1) ∧ decode cX11_kite 140 = .ok (.aload_n 3, 1) ∧ decode cX11_kite 141 = .ok (.getfield 268, 3) ∧ decode cX11_kite 144 = .ok (.invokevirtual 176, 3) ∧ decode cX11_kite 147 = .ok (.ireturn, 1) ∧ decode cX11_kite 148 = .ok (.aload_n 0, 1) ∧ decode cX11_kite 149 = .ok (.iconst 1, 1) ∧ decode cX11_kite 150 = .ok (.invokevirtual 132, 3) := by decide +kernel
theorem e_X11_kite_6 : decode cX11_kite 153 = .ok (.ireturn, 1) := by decide +kernel
theorem S_X11_kite {G : Kg} {σ : Kmem} {Q : Int → Kmem → Prop} {l1 l2 : Int}  (h : Run G WX M_X0_hasKite 0 0 0 [vA G 5, vI l1] σ (fun r1 s2 => (rI r1) ∧ ((r1 ≠ 0 → (0 ≤ l1 ∧ l1 < 6) ∧ (rI l2) ∧ ((l2 = 0 → Run G WX M_X11_give 0 0 0 [vA G 0, vI (s2 (5 + 6 + l1) 1)] s2 (fun r6 s7 => Q r6 s7)) ∧ (l2 = 1 → Run G WX M_X11_give 0 0 0 [vA G 0, vI (s2 (5 + 6 + l1) 2)] s2 (fun r8 s9 => Q r8 s9)) ∧ (l2 = 2 → Run G WX M_X11_give 0 0 0 [vA G 0, vI (s2 (5 + 6 + l1) 3)] s2 (fun r10 s11 => Q r10 s11)) ∧ (l2 = 3 → Run G WX M_X11_give 0 0 0 [vA G 0, vI (s2 (5 + 6 + l1) 4)] s2 (fun r12 s13 => Q r12 s13)) ∧ (l2 = 4 → Run G WX M_X11_give 0 0 0 [vA G 0, vI (s2 (5 + 6 + l1) 5)] s2 (fun r14 s15 => Q r14 s15)) ∧ (l2 = 5 → Run G WX M_X11_give 0 0 0 [vA G 0, vI (s2 (5 + 6 + l1) 7)] s2 (fun r16 s17 => Q r16 s17)) ∧ (l2 = 6 → Run G WX M_X11_give 0 0 0 [vA G 0, vI (s2 (5 + 6 + l1) 8)] s2 (fun r18 s19 => Q r18 s19)) ∧ (l2 = 7 → Run G WX M_X11_give 0 0 0 [vA G 0, vI (s2 (5 + 6 + l1) 6)] s2 (fun r20 s21 => Q r20 s21)) ∧ (l2 < 0 ∨ 7 < l2 → Run G WX M_X11_deny 0 0 0 [vA G 0, vI 1] s2 (fun r22 s23 => Q r22 s23)))) ∧ (r1 = 0 → Run G WX M_X11_deny 0 0 0 [vA G 0, vI 1] s2 (fun r24 s25 => Q r24 s25))))) : Run G WX M_X11_kite 1 0 0 [vA G 0, vI l1, vI l2] σ Q := by
  refine Run.of (by decide +kernel) (by show (3 : Nat) ≤ 4; decide) ?_
  show Ex G WX M_X11_kite 1 0 0 0 [(0, vA G 0), (1, vI l1), (2, vI l2)] [] σ Q
  refine R_aload_n e_X11_kite_0.1 0 rfl ?_
  refine R_getA 11 7 5 e_X11_kite_0.2.1 f_X11_43 kx_0 (fun _ _ => rfl) rx_0_7 (by decide) ?_
  refine R_iload_n e_X11_kite_0.2.2.1 1 rfl ?_
  refine R_callV (mc := 0) (ms := 0) (mc' := 0) (ms' := 0) (M' := M_X0_hasKite) (d' := 0) (as := [vI l1]) (st := []) 0 1 e_X11_kite_0.2.2.2.1 (kCVof m_X0_hasKite l_X11_238) rfl (by decide) (kC_self isC_5) (by decide) (by decide) rfl rfl (by show (0 : Nat) ≤ 8; decide) ?_
  refine Run.mono h (fun r1 s2 h => ?_)
  refine R_eqs (st2 := [vI r1]) rfl rfl ?_
  obtain ⟨q3, h⟩ := h
  refine R_if_ne 17 e_X11_kite_0.2.2.2.2.1 (by decide) q3  (fun q => ?_) (fun q => ?_)
  · replace h := h.1 q
    refine R_aload_n e_X11_kite_0.2.2.2.2.2.2.2.2.2 0 rfl ?_
    refine R_getA 11 7 5 e_X11_kite_1.1 f_X11_43 kx_0 (fun _ _ => rfl) rx_0_7 (by decide) ?_
    refine R_getA 0 10 (5 + 3) e_X11_kite_1.2.1 f_X11_241 (kC_self isC_5) (fun _ _ => rfl) (kC_r10 isC_5) (kC_n3 isC_5) ?_
    refine R_iload_n e_X11_kite_1.2.2.1 1 rfl ?_
    obtain ⟨q4, h⟩ := h
    refine R_aald 27 6 (5 + 6 + l1) e_X11_kite_1.2.2.2.1 (by decide) (kC_kites isC_5) q4 (kC_kiteAt isC_5 q4) (kC_kiteN isC_5 q4) ?_
    refine R_astore_n (ls2 := [(3, vA G (5 + 6 + l1)), (0, vA G 0), (1, vI l1), (2, vI l2)]) e_X11_kite_1.2.2.2.2.1 (by decide) rfl ?_
    refine R_iload_n e_X11_kite_1.2.2.2.2.2.1 3 rfl ?_
    obtain ⟨q5, h⟩ := h
    by_cases t0 : l2 = 0
    · refine R_tableIn 76 e_X11_kite_1.2.2.2.2.2.2.1 q5 (by omega) (by omega) (off := 48) (by rw [t0]; rfl) (by decide) ?_
      replace h := h.1 t0
      refine R_aload_n e_X11_kite_1.2.2.2.2.2.2.2.1 1 rfl ?_
      refine R_aload_n e_X11_kite_1.2.2.2.2.2.2.2.2.1 0 rfl ?_
      refine R_getI 3 1 1 e_X11_kite_1.2.2.2.2.2.2.2.2.2 f_X11_245 (kC_kite isC_5 q4) (fun _ _ => rfl) rfl ?_
      refine R_callV (mc := 0) (ms := 0) (mc' := 0) (ms' := 0) (M' := M_X11_give) (d' := 0) (as := [vI (s2 (5 + 6 + l1) 1)]) (st := []) 11 1 e_X11_kite_2.1 (kCVof m_X11_give l_X11_176) rfl (by decide) kx_0 (by decide) (by decide) rfl rfl (by show (0 : Nat) ≤ 8; decide) ?_
      refine Run.mono h (fun r6 s7 h => ?_)
      refine R_eqs (st2 := [vI r6]) rfl rfl ?_
      exact R_ireturn e_X11_kite_2.2.1 rfl h
    by_cases t1 : l2 = 1
    · refine R_tableIn 85 e_X11_kite_1.2.2.2.2.2.2.1 q5 (by omega) (by omega) (off := 57) (by rw [t1]; rfl) (by decide) ?_
      replace h := h.2.1 t1
      refine R_aload_n e_X11_kite_2.2.2.1 1 rfl ?_
      refine R_aload_n e_X11_kite_2.2.2.2.1 0 rfl ?_
      refine R_getI 3 2 2 e_X11_kite_2.2.2.2.2.1 f_X11_250 (kC_kite isC_5 q4) (fun _ _ => rfl) rfl ?_
      refine R_callV (mc := 0) (ms := 0) (mc' := 0) (ms' := 0) (M' := M_X11_give) (d' := 0) (as := [vI (s2 (5 + 6 + l1) 2)]) (st := []) 11 1 e_X11_kite_2.2.2.2.2.2.1 (kCVof m_X11_give l_X11_176) rfl (by decide) kx_0 (by decide) (by decide) rfl rfl (by show (0 : Nat) ≤ 8; decide) ?_
      refine Run.mono h (fun r8 s9 h => ?_)
      refine R_eqs (st2 := [vI r8]) rfl rfl ?_
      exact R_ireturn e_X11_kite_2.2.2.2.2.2.2.1 rfl h
    by_cases t2 : l2 = 2
    · refine R_tableIn 94 e_X11_kite_1.2.2.2.2.2.2.1 q5 (by omega) (by omega) (off := 66) (by rw [t2]; rfl) (by decide) ?_
      replace h := h.2.2.1 t2
      refine R_aload_n e_X11_kite_2.2.2.2.2.2.2.2.1 1 rfl ?_
      refine R_aload_n e_X11_kite_2.2.2.2.2.2.2.2.2.1 0 rfl ?_
      refine R_getI 3 3 3 e_X11_kite_2.2.2.2.2.2.2.2.2.2 f_X11_253 (kC_kite isC_5 q4) (fun _ _ => rfl) rfl ?_
      refine R_callV (mc := 0) (ms := 0) (mc' := 0) (ms' := 0) (M' := M_X11_give) (d' := 0) (as := [vI (s2 (5 + 6 + l1) 3)]) (st := []) 11 1 e_X11_kite_3.1 (kCVof m_X11_give l_X11_176) rfl (by decide) kx_0 (by decide) (by decide) rfl rfl (by show (0 : Nat) ≤ 8; decide) ?_
      refine Run.mono h (fun r10 s11 h => ?_)
      refine R_eqs (st2 := [vI r10]) rfl rfl ?_
      exact R_ireturn e_X11_kite_3.2.1 rfl h
    by_cases t3 : l2 = 3
    · refine R_tableIn 103 e_X11_kite_1.2.2.2.2.2.2.1 q5 (by omega) (by omega) (off := 75) (by rw [t3]; rfl) (by decide) ?_
      replace h := h.2.2.2.1 t3
      refine R_aload_n e_X11_kite_3.2.2.1 1 rfl ?_
      refine R_aload_n e_X11_kite_3.2.2.2.1 0 rfl ?_
      refine R_getI 3 4 4 e_X11_kite_3.2.2.2.2.1 f_X11_256 (kC_kite isC_5 q4) (fun _ _ => rfl) rfl ?_
      refine R_callV (mc := 0) (ms := 0) (mc' := 0) (ms' := 0) (M' := M_X11_give) (d' := 0) (as := [vI (s2 (5 + 6 + l1) 4)]) (st := []) 11 1 e_X11_kite_3.2.2.2.2.2.1 (kCVof m_X11_give l_X11_176) rfl (by decide) kx_0 (by decide) (by decide) rfl rfl (by show (0 : Nat) ≤ 8; decide) ?_
      refine Run.mono h (fun r12 s13 h => ?_)
      refine R_eqs (st2 := [vI r12]) rfl rfl ?_
      exact R_ireturn e_X11_kite_3.2.2.2.2.2.2.1 rfl h
    by_cases t4 : l2 = 4
    · refine R_tableIn 112 e_X11_kite_1.2.2.2.2.2.2.1 q5 (by omega) (by omega) (off := 84) (by rw [t4]; rfl) (by decide) ?_
      replace h := h.2.2.2.2.1 t4
      refine R_aload_n e_X11_kite_3.2.2.2.2.2.2.2.1 1 rfl ?_
      refine R_aload_n e_X11_kite_3.2.2.2.2.2.2.2.2.1 0 rfl ?_
      refine R_getI 3 5 5 e_X11_kite_3.2.2.2.2.2.2.2.2.2 f_X11_259 (kC_kite isC_5 q4) (fun _ _ => rfl) rfl ?_
      refine R_callV (mc := 0) (ms := 0) (mc' := 0) (ms' := 0) (M' := M_X11_give) (d' := 0) (as := [vI (s2 (5 + 6 + l1) 5)]) (st := []) 11 1 e_X11_kite_4.1 (kCVof m_X11_give l_X11_176) rfl (by decide) kx_0 (by decide) (by decide) rfl rfl (by show (0 : Nat) ≤ 8; decide) ?_
      refine Run.mono h (fun r14 s15 h => ?_)
      refine R_eqs (st2 := [vI r14]) rfl rfl ?_
      exact R_ireturn e_X11_kite_4.2.1 rfl h
    by_cases t5 : l2 = 5
    · refine R_tableIn 121 e_X11_kite_1.2.2.2.2.2.2.1 q5 (by omega) (by omega) (off := 93) (by rw [t5]; rfl) (by decide) ?_
      replace h := h.2.2.2.2.2.1 t5
      refine R_aload_n e_X11_kite_4.2.2.1 1 rfl ?_
      refine R_aload_n e_X11_kite_4.2.2.2.1 0 rfl ?_
      refine R_getI 3 7 7 e_X11_kite_4.2.2.2.2.1 f_X11_262 (kC_kite isC_5 q4) (fun _ _ => rfl) rfl ?_
      refine R_callV (mc := 0) (ms := 0) (mc' := 0) (ms' := 0) (M' := M_X11_give) (d' := 0) (as := [vI (s2 (5 + 6 + l1) 7)]) (st := []) 11 1 e_X11_kite_4.2.2.2.2.2.1 (kCVof m_X11_give l_X11_176) rfl (by decide) kx_0 (by decide) (by decide) rfl rfl (by show (0 : Nat) ≤ 8; decide) ?_
      refine Run.mono h (fun r16 s17 h => ?_)
      refine R_eqs (st2 := [vI r16]) rfl rfl ?_
      exact R_ireturn e_X11_kite_4.2.2.2.2.2.2.1 rfl h
    by_cases t6 : l2 = 6
    · refine R_tableIn 130 e_X11_kite_1.2.2.2.2.2.2.1 q5 (by omega) (by omega) (off := 102) (by rw [t6]; rfl) (by decide) ?_
      replace h := h.2.2.2.2.2.2.1 t6
      refine R_aload_n e_X11_kite_4.2.2.2.2.2.2.2.1 1 rfl ?_
      refine R_aload_n e_X11_kite_4.2.2.2.2.2.2.2.2.1 0 rfl ?_
      refine R_getI 3 8 8 e_X11_kite_4.2.2.2.2.2.2.2.2.2 f_X11_265 (kC_kite isC_5 q4) (fun _ _ => rfl) rfl ?_
      refine R_callV (mc := 0) (ms := 0) (mc' := 0) (ms' := 0) (M' := M_X11_give) (d' := 0) (as := [vI (s2 (5 + 6 + l1) 8)]) (st := []) 11 1 e_X11_kite_5.1 (kCVof m_X11_give l_X11_176) rfl (by decide) kx_0 (by decide) (by decide) rfl rfl (by show (0 : Nat) ≤ 8; decide) ?_
      refine Run.mono h (fun r18 s19 h => ?_)
      refine R_eqs (st2 := [vI r18]) rfl rfl ?_
      exact R_ireturn e_X11_kite_5.2.1 rfl h
    by_cases t7 : l2 = 7
    · refine R_tableIn 139 e_X11_kite_1.2.2.2.2.2.2.1 q5 (by omega) (by omega) (off := 111) (by rw [t7]; rfl) (by decide) ?_
      replace h := h.2.2.2.2.2.2.2.1 t7
      refine R_aload_n e_X11_kite_5.2.2.1 1 rfl ?_
      refine R_aload_n e_X11_kite_5.2.2.2.1 0 rfl ?_
      refine R_getI 3 6 6 e_X11_kite_5.2.2.2.2.1 f_X11_268 (kC_kite isC_5 q4) (fun _ _ => rfl) rfl ?_
      refine R_callV (mc := 0) (ms := 0) (mc' := 0) (ms' := 0) (M' := M_X11_give) (d' := 0) (as := [vI (s2 (5 + 6 + l1) 6)]) (st := []) 11 1 e_X11_kite_5.2.2.2.2.2.1 (kCVof m_X11_give l_X11_176) rfl (by decide) kx_0 (by decide) (by decide) rfl rfl (by show (0 : Nat) ≤ 8; decide) ?_
      refine Run.mono h (fun r20 s21 h => ?_)
      refine R_eqs (st2 := [vI r20]) rfl rfl ?_
      exact R_ireturn e_X11_kite_5.2.2.2.2.2.2.1 rfl h
    refine R_tableOut 148 e_X11_kite_1.2.2.2.2.2.2.1 q5 (by omega) (by decide) ?_
    replace h := h.2.2.2.2.2.2.2.2 (by omega)
    refine R_aload_n e_X11_kite_5.2.2.2.2.2.2.2.1 1 rfl ?_
    refine R_iconst e_X11_kite_5.2.2.2.2.2.2.2.2.1 ?_
    refine R_callV (mc := 0) (ms := 0) (mc' := 0) (ms' := 0) (M' := M_X11_deny) (d' := 0) (as := [vI 1]) (st := []) 11 1 e_X11_kite_5.2.2.2.2.2.2.2.2.2 (kCVof m_X11_deny l_X11_132) rfl (by decide) kx_0 (by decide) (by decide) rfl rfl (by show (0 : Nat) ≤ 8; decide) ?_
    refine Run.mono h (fun r22 s23 h => ?_)
    refine R_eqs (st2 := [vI r22]) rfl rfl ?_
    exact R_ireturn e_X11_kite_6 rfl h
  · replace h := h.2 q
    refine R_aload_n e_X11_kite_0.2.2.2.2.2.1 0 rfl ?_
    refine R_iconst e_X11_kite_0.2.2.2.2.2.2.1 ?_
    refine R_callV (mc := 0) (ms := 0) (mc' := 0) (ms' := 0) (M' := M_X11_deny) (d' := 0) (as := [vI 1]) (st := []) 11 1 e_X11_kite_0.2.2.2.2.2.2.2.1 (kCVof m_X11_deny l_X11_132) rfl (by decide) kx_0 (by decide) (by decide) rfl rfl (by show (0 : Nat) ≤ 8; decide) ?_
    refine Run.mono h (fun r24 s25 h => ?_)
    refine R_eqs (st2 := [vI r24]) rfl rfl ?_
    exact R_ireturn e_X11_kite_0.2.2.2.2.2.2.2.2.1 rfl h
/-! KiteLand.crop(II)I -/
theorem e_X11_crop_0 : decode cX11_crop 0 = .ok (.aload_n 0, 1) ∧ decode cX11_crop 1 = .ok (.getfield 43, 3) ∧ decode cX11_crop 4 = .ok (.iload_n 1, 1) ∧ decode cX11_crop 5 = .ok (.invokevirtual 271, 3) ∧ decode cX11_crop 8 = .ok (.ifCond .ne 9, 3) ∧ decode cX11_crop 11 = .ok (.aload_n 0, 1) ∧ decode cX11_crop 12 = .ok (.iconst 1, 1) ∧ decode cX11_crop 13 = .ok (.invokevirtual 132, 3) ∧ decode cX11_crop 16 = .ok (.ireturn, 1) ∧ decode cX11_crop 17 = .ok (.aload_n 0, 1) := by decide +kernel
theorem e_X11_crop_1 : decode cX11_crop 18 = .ok (.getfield 43, 3) ∧ decode cX11_crop 21 = .ok (.getfield 274, 3) ∧ decode cX11_crop 24 = .ok (.iload_n 1, 1) ∧ decode cX11_crop 25 = .ok (.aaload, 1) ∧ decode cX11_crop 26 = .ok (.astore_n 3, 1) ∧ decode cX11_crop 27 = .ok (.iload_n 2, 1) ∧ decode cX11_crop 28 = .ok (.tableswitch 68 0 3 #[32, 41, 50, 59], 32) ∧ decode cX11_crop 60 = .ok (.aload_n 0, 1) ∧ decode cX11_crop 61 = .ok (.aload_n 3, 1) ∧ decode cX11_crop 62 = .ok (.getfield 278, 3) := by decide +kernel
theorem e_X11_crop_2 : decode cX11_crop 65 = .ok (.invokevirtual 176, 3) ∧ decode cX11_crop 68 = .ok (.ireturn, 1) ∧ decode cX11_crop 69 = .ok (.aload_n 0, 1) ∧ decode cX11_crop 70 = .ok (.aload_n 3, 1) ∧ decode cX11_crop 71 = .ok (.getfield 281, 3) ∧ decode cX11_crop 74 = .ok (.invokevirtual 176, 3) ∧ decode cX11_crop 77 = .ok (.ireturn, 1) ∧ decode cX11_crop 78 = .ok (.aload_n 0, 1) ∧ decode cX11_crop 79 = .ok (.aload_n 3, 1) ∧ decode cX11_crop 80 = .ok (.getfield 282, 3) := by decide +kernel
theorem e_X11_crop_3 : decode cX11_crop 83 = .ok (.invokevirtual 176, 3) ∧ decode cX11_crop 86 = .ok (.ireturn, 1) ∧ decode cX11_crop 87 = .ok (.aload_n 0, 1) ∧ decode cX11_crop 88 = .ok (.aload_n 3, 1) ∧ decode cX11_crop 89 = .ok (.getfield 285, 3) ∧ decode cX11_crop 92 = .ok (.invokevirtual 176, 3) ∧ decode cX11_crop 95 = .ok (.ireturn, 1) ∧ decode cX11_crop 96 = .ok (.aload_n 0, 1) ∧ decode cX11_crop 97 = .ok (.iconst 1, 1) ∧ decode cX11_crop 98 = .ok (.invokevirtual 132, 3) := by decide +kernel
theorem e_X11_crop_4 : decode cX11_crop 101 = .ok (.ireturn, 1) := by decide +kernel
theorem S_X11_crop {G : Kg} {σ : Kmem} {Q : Int → Kmem → Prop} {l1 l2 : Int}  (h : Run G WX M_X0_hasCrop 0 0 0 [vA G 5, vI l1] σ (fun r1 s2 => (rI r1) ∧ ((r1 ≠ 0 → (0 ≤ l1 ∧ l1 < 8) ∧ (rI l2) ∧ ((l2 = 0 → Run G WX M_X11_give 0 0 0 [vA G 0, vI (s2 (5 + 12 + l1) 1)] s2 (fun r6 s7 => Q r6 s7)) ∧ (l2 = 1 → Run G WX M_X11_give 0 0 0 [vA G 0, vI (s2 (5 + 12 + l1) 2)] s2 (fun r8 s9 => Q r8 s9)) ∧ (l2 = 2 → Run G WX M_X11_give 0 0 0 [vA G 0, vI (s2 (5 + 12 + l1) 3)] s2 (fun r10 s11 => Q r10 s11)) ∧ (l2 = 3 → Run G WX M_X11_give 0 0 0 [vA G 0, vI (s2 (5 + 12 + l1) 4)] s2 (fun r12 s13 => Q r12 s13)) ∧ (l2 < 0 ∨ 3 < l2 → Run G WX M_X11_deny 0 0 0 [vA G 0, vI 1] s2 (fun r14 s15 => Q r14 s15)))) ∧ (r1 = 0 → Run G WX M_X11_deny 0 0 0 [vA G 0, vI 1] s2 (fun r16 s17 => Q r16 s17))))) : Run G WX M_X11_crop 1 0 0 [vA G 0, vI l1, vI l2] σ Q := by
  refine Run.of (by decide +kernel) (by show (3 : Nat) ≤ 4; decide) ?_
  show Ex G WX M_X11_crop 1 0 0 0 [(0, vA G 0), (1, vI l1), (2, vI l2)] [] σ Q
  refine R_aload_n e_X11_crop_0.1 0 rfl ?_
  refine R_getA 11 7 5 e_X11_crop_0.2.1 f_X11_43 kx_0 (fun _ _ => rfl) rx_0_7 (by decide) ?_
  refine R_iload_n e_X11_crop_0.2.2.1 1 rfl ?_
  refine R_callV (mc := 0) (ms := 0) (mc' := 0) (ms' := 0) (M' := M_X0_hasCrop) (d' := 0) (as := [vI l1]) (st := []) 0 1 e_X11_crop_0.2.2.2.1 (kCVof m_X0_hasCrop l_X11_271) rfl (by decide) (kC_self isC_5) (by decide) (by decide) rfl rfl (by show (0 : Nat) ≤ 8; decide) ?_
  refine Run.mono h (fun r1 s2 h => ?_)
  refine R_eqs (st2 := [vI r1]) rfl rfl ?_
  obtain ⟨q3, h⟩ := h
  refine R_if_ne 17 e_X11_crop_0.2.2.2.2.1 (by decide) q3  (fun q => ?_) (fun q => ?_)
  · replace h := h.1 q
    refine R_aload_n e_X11_crop_0.2.2.2.2.2.2.2.2.2 0 rfl ?_
    refine R_getA 11 7 5 e_X11_crop_1.1 f_X11_43 kx_0 (fun _ _ => rfl) rx_0_7 (by decide) ?_
    refine R_getA 0 11 (5 + 4) e_X11_crop_1.2.1 f_X11_274 (kC_self isC_5) (fun _ _ => rfl) (kC_r11 isC_5) (kC_n4 isC_5) ?_
    refine R_iload_n e_X11_crop_1.2.2.1 1 rfl ?_
    obtain ⟨q4, h⟩ := h
    refine R_aald 28 8 (5 + 12 + l1) e_X11_crop_1.2.2.2.1 (by decide) (kC_crops isC_5) q4 (kC_cropAt isC_5 q4) (kC_cropN isC_5 q4) ?_
    refine R_astore_n (ls2 := [(3, vA G (5 + 12 + l1)), (0, vA G 0), (1, vI l1), (2, vI l2)]) e_X11_crop_1.2.2.2.2.1 (by decide) rfl ?_
    refine R_iload_n e_X11_crop_1.2.2.2.2.2.1 3 rfl ?_
    obtain ⟨q5, h⟩ := h
    by_cases t0 : l2 = 0
    · refine R_tableIn 60 e_X11_crop_1.2.2.2.2.2.2.1 q5 (by omega) (by omega) (off := 32) (by rw [t0]; rfl) (by decide) ?_
      replace h := h.1 t0
      refine R_aload_n e_X11_crop_1.2.2.2.2.2.2.2.1 1 rfl ?_
      refine R_aload_n e_X11_crop_1.2.2.2.2.2.2.2.2.1 0 rfl ?_
      refine R_getI 2 1 1 e_X11_crop_1.2.2.2.2.2.2.2.2.2 f_X11_278 (kC_crop isC_5 q4) (fun _ _ => rfl) rfl ?_
      refine R_callV (mc := 0) (ms := 0) (mc' := 0) (ms' := 0) (M' := M_X11_give) (d' := 0) (as := [vI (s2 (5 + 12 + l1) 1)]) (st := []) 11 1 e_X11_crop_2.1 (kCVof m_X11_give l_X11_176) rfl (by decide) kx_0 (by decide) (by decide) rfl rfl (by show (0 : Nat) ≤ 8; decide) ?_
      refine Run.mono h (fun r6 s7 h => ?_)
      refine R_eqs (st2 := [vI r6]) rfl rfl ?_
      exact R_ireturn e_X11_crop_2.2.1 rfl h
    by_cases t1 : l2 = 1
    · refine R_tableIn 69 e_X11_crop_1.2.2.2.2.2.2.1 q5 (by omega) (by omega) (off := 41) (by rw [t1]; rfl) (by decide) ?_
      replace h := h.2.1 t1
      refine R_aload_n e_X11_crop_2.2.2.1 1 rfl ?_
      refine R_aload_n e_X11_crop_2.2.2.2.1 0 rfl ?_
      refine R_getI 2 2 2 e_X11_crop_2.2.2.2.2.1 f_X11_281 (kC_crop isC_5 q4) (fun _ _ => rfl) rfl ?_
      refine R_callV (mc := 0) (ms := 0) (mc' := 0) (ms' := 0) (M' := M_X11_give) (d' := 0) (as := [vI (s2 (5 + 12 + l1) 2)]) (st := []) 11 1 e_X11_crop_2.2.2.2.2.2.1 (kCVof m_X11_give l_X11_176) rfl (by decide) kx_0 (by decide) (by decide) rfl rfl (by show (0 : Nat) ≤ 8; decide) ?_
      refine Run.mono h (fun r8 s9 h => ?_)
      refine R_eqs (st2 := [vI r8]) rfl rfl ?_
      exact R_ireturn e_X11_crop_2.2.2.2.2.2.2.1 rfl h
    by_cases t2 : l2 = 2
    · refine R_tableIn 78 e_X11_crop_1.2.2.2.2.2.2.1 q5 (by omega) (by omega) (off := 50) (by rw [t2]; rfl) (by decide) ?_
      replace h := h.2.2.1 t2
      refine R_aload_n e_X11_crop_2.2.2.2.2.2.2.2.1 1 rfl ?_
      refine R_aload_n e_X11_crop_2.2.2.2.2.2.2.2.2.1 0 rfl ?_
      refine R_getI 2 3 3 e_X11_crop_2.2.2.2.2.2.2.2.2.2 f_X11_282 (kC_crop isC_5 q4) (fun _ _ => rfl) rfl ?_
      refine R_callV (mc := 0) (ms := 0) (mc' := 0) (ms' := 0) (M' := M_X11_give) (d' := 0) (as := [vI (s2 (5 + 12 + l1) 3)]) (st := []) 11 1 e_X11_crop_3.1 (kCVof m_X11_give l_X11_176) rfl (by decide) kx_0 (by decide) (by decide) rfl rfl (by show (0 : Nat) ≤ 8; decide) ?_
      refine Run.mono h (fun r10 s11 h => ?_)
      refine R_eqs (st2 := [vI r10]) rfl rfl ?_
      exact R_ireturn e_X11_crop_3.2.1 rfl h
    by_cases t3 : l2 = 3
    · refine R_tableIn 87 e_X11_crop_1.2.2.2.2.2.2.1 q5 (by omega) (by omega) (off := 59) (by rw [t3]; rfl) (by decide) ?_
      replace h := h.2.2.2.1 t3
      refine R_aload_n e_X11_crop_3.2.2.1 1 rfl ?_
      refine R_aload_n e_X11_crop_3.2.2.2.1 0 rfl ?_
      refine R_getI 2 4 4 e_X11_crop_3.2.2.2.2.1 f_X11_285 (kC_crop isC_5 q4) (fun _ _ => rfl) rfl ?_
      refine R_callV (mc := 0) (ms := 0) (mc' := 0) (ms' := 0) (M' := M_X11_give) (d' := 0) (as := [vI (s2 (5 + 12 + l1) 4)]) (st := []) 11 1 e_X11_crop_3.2.2.2.2.2.1 (kCVof m_X11_give l_X11_176) rfl (by decide) kx_0 (by decide) (by decide) rfl rfl (by show (0 : Nat) ≤ 8; decide) ?_
      refine Run.mono h (fun r12 s13 h => ?_)
      refine R_eqs (st2 := [vI r12]) rfl rfl ?_
      exact R_ireturn e_X11_crop_3.2.2.2.2.2.2.1 rfl h
    refine R_tableOut 96 e_X11_crop_1.2.2.2.2.2.2.1 q5 (by omega) (by decide) ?_
    replace h := h.2.2.2.2 (by omega)
    refine R_aload_n e_X11_crop_3.2.2.2.2.2.2.2.1 1 rfl ?_
    refine R_iconst e_X11_crop_3.2.2.2.2.2.2.2.2.1 ?_
    refine R_callV (mc := 0) (ms := 0) (mc' := 0) (ms' := 0) (M' := M_X11_deny) (d' := 0) (as := [vI 1]) (st := []) 11 1 e_X11_crop_3.2.2.2.2.2.2.2.2.2 (kCVof m_X11_deny l_X11_132) rfl (by decide) kx_0 (by decide) (by decide) rfl rfl (by show (0 : Nat) ≤ 8; decide) ?_
    refine Run.mono h (fun r14 s15 h => ?_)
    refine R_eqs (st2 := [vI r14]) rfl rfl ?_
    exact R_ireturn e_X11_crop_4 rfl h
  · replace h := h.2 q
    refine R_aload_n e_X11_crop_0.2.2.2.2.2.1 0 rfl ?_
    refine R_iconst e_X11_crop_0.2.2.2.2.2.2.1 ?_
    refine R_callV (mc := 0) (ms := 0) (mc' := 0) (ms' := 0) (M' := M_X11_deny) (d' := 0) (as := [vI 1]) (st := []) 11 1 e_X11_crop_0.2.2.2.2.2.2.2.1 (kCVof m_X11_deny l_X11_132) rfl (by decide) kx_0 (by decide) (by decide) rfl rfl (by show (0 : Nat) ≤ 8; decide) ?_
    refine Run.mono h (fun r16 s17 h => ?_)
    refine R_eqs (st2 := [vI r16]) rfl rfl ?_
    exact R_ireturn e_X11_crop_0.2.2.2.2.2.2.2.2.1 rfl h
/-! KiteLand.tenant(II)I -/
theorem e_X11_tenant_0 : decode cX11_tenant 0 = .ok (.aload_n 0, 1) ∧ decode cX11_tenant 1 = .ok (.getfield 43, 3) ∧ decode cX11_tenant 4 = .ok (.iload_n 1, 1) ∧ decode cX11_tenant 5 = .ok (.invokevirtual 288, 3) ∧ decode cX11_tenant 8 = .ok (.ifCond .ne 9, 3) ∧ decode cX11_tenant 11 = .ok (.aload_n 0, 1) ∧ decode cX11_tenant 12 = .ok (.iconst 1, 1) ∧ decode cX11_tenant 13 = .ok (.invokevirtual 132, 3) ∧ decode cX11_tenant 16 = .ok (.ireturn, 1) ∧ decode cX11_tenant 17 = .ok (.aload_n 0, 1) := by decide +kernel
theorem e_X11_tenant_1 : decode cX11_tenant 18 = .ok (.getfield 43, 3) ∧ decode cX11_tenant 21 = .ok (.getfield 291, 3) ∧ decode cX11_tenant 24 = .ok (.iload_n 1, 1) ∧ decode cX11_tenant 25 = .ok (.aaload, 1) ∧ decode cX11_tenant 26 = .ok (.astore_n 3, 1) ∧ decode cX11_tenant 27 = .ok (.iload_n 2, 1) ∧ decode cX11_tenant 28 = .ok (.tableswitch 81 0 4 #[36, 45, 54, 63, 72], 36) ∧ decode cX11_tenant 64 = .ok (.aload_n 0, 1) ∧ decode cX11_tenant 65 = .ok (.aload_n 3, 1) ∧ decode cX11_tenant 66 = .ok (.getfield 295, 3) := by decide +kernel
theorem e_X11_tenant_2 : decode cX11_tenant 69 = .ok (.invokevirtual 176, 3) ∧ decode cX11_tenant 72 = .ok (.ireturn, 1) ∧ decode cX11_tenant 73 = .ok (.aload_n 0, 1) ∧ decode cX11_tenant 74 = .ok (.aload_n 3, 1) ∧ decode cX11_tenant 75 = .ok (.getfield 298, 3) ∧ decode cX11_tenant 78 = .ok (.invokevirtual 176, 3) ∧ decode cX11_tenant 81 = .ok (.ireturn, 1) ∧ decode cX11_tenant 82 = .ok (.aload_n 0, 1) ∧ decode cX11_tenant 83 = .ok (.aload_n 3, 1) ∧ decode cX11_tenant 84 = .ok (.getfield 299, 3) := by decide +kernel
theorem e_X11_tenant_3 : decode cX11_tenant 87 = .ok (.invokevirtual 176, 3) ∧ decode cX11_tenant 90 = .ok (.ireturn, 1) ∧ decode cX11_tenant 91 = .ok (.aload_n 0, 1) ∧ decode cX11_tenant 92 = .ok (.aload_n 3, 1) ∧ decode cX11_tenant 93 = .ok (.getfield 302, 3) ∧ decode cX11_tenant 96 = .ok (.invokevirtual 176, 3) ∧ decode cX11_tenant 99 = .ok (.ireturn, 1) ∧ decode cX11_tenant 100 = .ok (.aload_n 0, 1) ∧ decode cX11_tenant 101 = .ok (.aload_n 3, 1) ∧ decode cX11_tenant 102 = .ok (.getfield 305, 3) := by decide +kernel
theorem e_X11_tenant_4 : decode cX11_tenant 105 = .ok (.invokevirtual 176, 3) ∧ decode cX11_tenant 108 = .ok (.ireturn, 1) ∧ decode cX11_tenant 109 = .ok (.aload_n 0, 1) ∧ decode cX11_tenant 110 = .ok (.iconst 1, 1) ∧ decode cX11_tenant 111 = .ok (.invokevirtual 132, 3) ∧ decode cX11_tenant 114 = .ok (.ireturn, 1) := by decide +kernel
theorem S_X11_tenant {G : Kg} {σ : Kmem} {Q : Int → Kmem → Prop} {l1 l2 : Int}  (h : Run G WX M_X0_hasTenant 0 0 0 [vA G 5, vI l1] σ (fun r1 s2 => (rI r1) ∧ ((r1 ≠ 0 → (0 ≤ l1 ∧ l1 < 6) ∧ (rI l2) ∧ ((l2 = 0 → Run G WX M_X11_give 0 0 0 [vA G 0, vI (s2 (5 + 20 + l1) 1)] s2 (fun r6 s7 => Q r6 s7)) ∧ (l2 = 1 → Run G WX M_X11_give 0 0 0 [vA G 0, vI (s2 (5 + 20 + l1) 2)] s2 (fun r8 s9 => Q r8 s9)) ∧ (l2 = 2 → Run G WX M_X11_give 0 0 0 [vA G 0, vI (s2 (5 + 20 + l1) 3)] s2 (fun r10 s11 => Q r10 s11)) ∧ (l2 = 3 → Run G WX M_X11_give 0 0 0 [vA G 0, vI (s2 (5 + 20 + l1) 4)] s2 (fun r12 s13 => Q r12 s13)) ∧ (l2 = 4 → Run G WX M_X11_give 0 0 0 [vA G 0, vI (s2 (5 + 20 + l1) 5)] s2 (fun r14 s15 => Q r14 s15)) ∧ (l2 < 0 ∨ 4 < l2 → Run G WX M_X11_deny 0 0 0 [vA G 0, vI 1] s2 (fun r16 s17 => Q r16 s17)))) ∧ (r1 = 0 → Run G WX M_X11_deny 0 0 0 [vA G 0, vI 1] s2 (fun r18 s19 => Q r18 s19))))) : Run G WX M_X11_tenant 1 0 0 [vA G 0, vI l1, vI l2] σ Q := by
  refine Run.of (by decide +kernel) (by show (3 : Nat) ≤ 4; decide) ?_
  show Ex G WX M_X11_tenant 1 0 0 0 [(0, vA G 0), (1, vI l1), (2, vI l2)] [] σ Q
  refine R_aload_n e_X11_tenant_0.1 0 rfl ?_
  refine R_getA 11 7 5 e_X11_tenant_0.2.1 f_X11_43 kx_0 (fun _ _ => rfl) rx_0_7 (by decide) ?_
  refine R_iload_n e_X11_tenant_0.2.2.1 1 rfl ?_
  refine R_callV (mc := 0) (ms := 0) (mc' := 0) (ms' := 0) (M' := M_X0_hasTenant) (d' := 0) (as := [vI l1]) (st := []) 0 1 e_X11_tenant_0.2.2.2.1 (kCVof m_X0_hasTenant l_X11_288) rfl (by decide) (kC_self isC_5) (by decide) (by decide) rfl rfl (by show (0 : Nat) ≤ 8; decide) ?_
  refine Run.mono h (fun r1 s2 h => ?_)
  refine R_eqs (st2 := [vI r1]) rfl rfl ?_
  obtain ⟨q3, h⟩ := h
  refine R_if_ne 17 e_X11_tenant_0.2.2.2.2.1 (by decide) q3  (fun q => ?_) (fun q => ?_)
  · replace h := h.1 q
    refine R_aload_n e_X11_tenant_0.2.2.2.2.2.2.2.2.2 0 rfl ?_
    refine R_getA 11 7 5 e_X11_tenant_1.1 f_X11_43 kx_0 (fun _ _ => rfl) rx_0_7 (by decide) ?_
    refine R_getA 0 12 (5 + 5) e_X11_tenant_1.2.1 f_X11_291 (kC_self isC_5) (fun _ _ => rfl) (kC_r12 isC_5) (kC_n5 isC_5) ?_
    refine R_iload_n e_X11_tenant_1.2.2.1 1 rfl ?_
    obtain ⟨q4, h⟩ := h
    refine R_aald 29 6 (5 + 20 + l1) e_X11_tenant_1.2.2.2.1 (by decide) (kC_tens isC_5) q4 (kC_tenAt isC_5 q4) (kC_tenN isC_5 q4) ?_
    refine R_astore_n (ls2 := [(3, vA G (5 + 20 + l1)), (0, vA G 0), (1, vI l1), (2, vI l2)]) e_X11_tenant_1.2.2.2.2.1 (by decide) rfl ?_
    refine R_iload_n e_X11_tenant_1.2.2.2.2.2.1 3 rfl ?_
    obtain ⟨q5, h⟩ := h
    by_cases t0 : l2 = 0
    · refine R_tableIn 64 e_X11_tenant_1.2.2.2.2.2.2.1 q5 (by omega) (by omega) (off := 36) (by rw [t0]; rfl) (by decide) ?_
      replace h := h.1 t0
      refine R_aload_n e_X11_tenant_1.2.2.2.2.2.2.2.1 1 rfl ?_
      refine R_aload_n e_X11_tenant_1.2.2.2.2.2.2.2.2.1 0 rfl ?_
      refine R_getI 9 1 1 e_X11_tenant_1.2.2.2.2.2.2.2.2.2 f_X11_295 (kC_ten isC_5 q4) (fun _ _ => rfl) rfl ?_
      refine R_callV (mc := 0) (ms := 0) (mc' := 0) (ms' := 0) (M' := M_X11_give) (d' := 0) (as := [vI (s2 (5 + 20 + l1) 1)]) (st := []) 11 1 e_X11_tenant_2.1 (kCVof m_X11_give l_X11_176) rfl (by decide) kx_0 (by decide) (by decide) rfl rfl (by show (0 : Nat) ≤ 8; decide) ?_
      refine Run.mono h (fun r6 s7 h => ?_)
      refine R_eqs (st2 := [vI r6]) rfl rfl ?_
      exact R_ireturn e_X11_tenant_2.2.1 rfl h
    by_cases t1 : l2 = 1
    · refine R_tableIn 73 e_X11_tenant_1.2.2.2.2.2.2.1 q5 (by omega) (by omega) (off := 45) (by rw [t1]; rfl) (by decide) ?_
      replace h := h.2.1 t1
      refine R_aload_n e_X11_tenant_2.2.2.1 1 rfl ?_
      refine R_aload_n e_X11_tenant_2.2.2.2.1 0 rfl ?_
      refine R_getI 9 2 2 e_X11_tenant_2.2.2.2.2.1 f_X11_298 (kC_ten isC_5 q4) (fun _ _ => rfl) rfl ?_
      refine R_callV (mc := 0) (ms := 0) (mc' := 0) (ms' := 0) (M' := M_X11_give) (d' := 0) (as := [vI (s2 (5 + 20 + l1) 2)]) (st := []) 11 1 e_X11_tenant_2.2.2.2.2.2.1 (kCVof m_X11_give l_X11_176) rfl (by decide) kx_0 (by decide) (by decide) rfl rfl (by show (0 : Nat) ≤ 8; decide) ?_
      refine Run.mono h (fun r8 s9 h => ?_)
      refine R_eqs (st2 := [vI r8]) rfl rfl ?_
      exact R_ireturn e_X11_tenant_2.2.2.2.2.2.2.1 rfl h
    by_cases t2 : l2 = 2
    · refine R_tableIn 82 e_X11_tenant_1.2.2.2.2.2.2.1 q5 (by omega) (by omega) (off := 54) (by rw [t2]; rfl) (by decide) ?_
      replace h := h.2.2.1 t2
      refine R_aload_n e_X11_tenant_2.2.2.2.2.2.2.2.1 1 rfl ?_
      refine R_aload_n e_X11_tenant_2.2.2.2.2.2.2.2.2.1 0 rfl ?_
      refine R_getI 9 3 3 e_X11_tenant_2.2.2.2.2.2.2.2.2.2 f_X11_299 (kC_ten isC_5 q4) (fun _ _ => rfl) rfl ?_
      refine R_callV (mc := 0) (ms := 0) (mc' := 0) (ms' := 0) (M' := M_X11_give) (d' := 0) (as := [vI (s2 (5 + 20 + l1) 3)]) (st := []) 11 1 e_X11_tenant_3.1 (kCVof m_X11_give l_X11_176) rfl (by decide) kx_0 (by decide) (by decide) rfl rfl (by show (0 : Nat) ≤ 8; decide) ?_
      refine Run.mono h (fun r10 s11 h => ?_)
      refine R_eqs (st2 := [vI r10]) rfl rfl ?_
      exact R_ireturn e_X11_tenant_3.2.1 rfl h
    by_cases t3 : l2 = 3
    · refine R_tableIn 91 e_X11_tenant_1.2.2.2.2.2.2.1 q5 (by omega) (by omega) (off := 63) (by rw [t3]; rfl) (by decide) ?_
      replace h := h.2.2.2.1 t3
      refine R_aload_n e_X11_tenant_3.2.2.1 1 rfl ?_
      refine R_aload_n e_X11_tenant_3.2.2.2.1 0 rfl ?_
      refine R_getI 9 4 4 e_X11_tenant_3.2.2.2.2.1 f_X11_302 (kC_ten isC_5 q4) (fun _ _ => rfl) rfl ?_
      refine R_callV (mc := 0) (ms := 0) (mc' := 0) (ms' := 0) (M' := M_X11_give) (d' := 0) (as := [vI (s2 (5 + 20 + l1) 4)]) (st := []) 11 1 e_X11_tenant_3.2.2.2.2.2.1 (kCVof m_X11_give l_X11_176) rfl (by decide) kx_0 (by decide) (by decide) rfl rfl (by show (0 : Nat) ≤ 8; decide) ?_
      refine Run.mono h (fun r12 s13 h => ?_)
      refine R_eqs (st2 := [vI r12]) rfl rfl ?_
      exact R_ireturn e_X11_tenant_3.2.2.2.2.2.2.1 rfl h
    by_cases t4 : l2 = 4
    · refine R_tableIn 100 e_X11_tenant_1.2.2.2.2.2.2.1 q5 (by omega) (by omega) (off := 72) (by rw [t4]; rfl) (by decide) ?_
      replace h := h.2.2.2.2.1 t4
      refine R_aload_n e_X11_tenant_3.2.2.2.2.2.2.2.1 1 rfl ?_
      refine R_aload_n e_X11_tenant_3.2.2.2.2.2.2.2.2.1 0 rfl ?_
      refine R_getI 9 5 5 e_X11_tenant_3.2.2.2.2.2.2.2.2.2 f_X11_305 (kC_ten isC_5 q4) (fun _ _ => rfl) rfl ?_
      refine R_callV (mc := 0) (ms := 0) (mc' := 0) (ms' := 0) (M' := M_X11_give) (d' := 0) (as := [vI (s2 (5 + 20 + l1) 5)]) (st := []) 11 1 e_X11_tenant_4.1 (kCVof m_X11_give l_X11_176) rfl (by decide) kx_0 (by decide) (by decide) rfl rfl (by show (0 : Nat) ≤ 8; decide) ?_
      refine Run.mono h (fun r14 s15 h => ?_)
      refine R_eqs (st2 := [vI r14]) rfl rfl ?_
      exact R_ireturn e_X11_tenant_4.2.1 rfl h
    refine R_tableOut 109 e_X11_tenant_1.2.2.2.2.2.2.1 q5 (by omega) (by decide) ?_
    replace h := h.2.2.2.2.2 (by omega)
    refine R_aload_n e_X11_tenant_4.2.2.1 1 rfl ?_
    refine R_iconst e_X11_tenant_4.2.2.2.1 ?_
    refine R_callV (mc := 0) (ms := 0) (mc' := 0) (ms' := 0) (M' := M_X11_deny) (d' := 0) (as := [vI 1]) (st := []) 11 1 e_X11_tenant_4.2.2.2.2.1 (kCVof m_X11_deny l_X11_132) rfl (by decide) kx_0 (by decide) (by decide) rfl rfl (by show (0 : Nat) ≤ 8; decide) ?_
    refine Run.mono h (fun r16 s17 h => ?_)
    refine R_eqs (st2 := [vI r16]) rfl rfl ?_
    exact R_ireturn e_X11_tenant_4.2.2.2.2.2 rfl h
  · replace h := h.2 q
    refine R_aload_n e_X11_tenant_0.2.2.2.2.2.1 0 rfl ?_
    refine R_iconst e_X11_tenant_0.2.2.2.2.2.2.1 ?_
    refine R_callV (mc := 0) (ms := 0) (mc' := 0) (ms' := 0) (M' := M_X11_deny) (d' := 0) (as := [vI 1]) (st := []) 11 1 e_X11_tenant_0.2.2.2.2.2.2.2.1 (kCVof m_X11_deny l_X11_132) rfl (by decide) kx_0 (by decide) (by decide) rfl rfl (by show (0 : Nat) ≤ 8; decide) ?_
    refine Run.mono h (fun r18 s19 h => ?_)
    refine R_eqs (st2 := [vI r18]) rfl rfl ?_
    exact R_ireturn e_X11_tenant_0.2.2.2.2.2.2.2.2.1 rfl h
/-! KiteLand.stands(III)I -/
theorem e_X11_stands_0 : decode cX11_stands 0 = .ok (.aload_n 0, 1) ∧ decode cX11_stands 1 = .ok (.getfield 43, 3) ∧ decode cX11_stands 4 = .ok (.iload_n 1, 1) ∧ decode cX11_stands 5 = .ok (.invokevirtual 238, 3) ∧ decode cX11_stands 8 = .ok (.ifCond .eq 20, 3) ∧ decode cX11_stands 11 = .ok (.aload_n 0, 1) ∧ decode cX11_stands 12 = .ok (.iload_n 2, 1) ∧ decode cX11_stands 13 = .ok (.invokevirtual 228, 3) ∧ decode cX11_stands 16 = .ok (.ifCond .eq 12, 3) ∧ decode cX11_stands 19 = .ok (.iload_n 3, 1) := by decide +kernel
theorem e_X11_stands_1 : decode cX11_stands 20 = .ok (.ifCond .lt 8, 3) ∧ decode cX11_stands 23 = .ok (.iload_n 3, 1) ∧ decode cX11_stands 24 = .ok (.iconst 1, 1) ∧ decode cX11_stands 25 = .ok (.if_icmp .le 9, 3) ∧ decode cX11_stands 28 = .ok (.aload_n 0, 1) ∧ decode cX11_stands 29 = .ok (.iconst 1, 1) ∧ decode cX11_stands 30 = .ok (.invokevirtual 132, 3) ∧ decode cX11_stands 33 = .ok (.ireturn, 1) ∧ decode cX11_stands 34 = .ok (.aload_n 0, 1) ∧ decode cX11_stands 35 = .ok (.getfield 64, 3) := by decide +kernel
theorem e_X11_stands_2 : decode cX11_stands 38 = .ok (.aload_n 0, 1) ∧ decode cX11_stands 39 = .ok (.getfield 43, 3) ∧ decode cX11_stands 42 = .ok (.iload_n 2, 1) ∧ decode cX11_stands 43 = .ok (.invokevirtual 308, 3) ∧ decode cX11_stands 46 = .ok (.aload_n 0, 1) ∧ decode cX11_stands 47 = .ok (.getfield 64, 3) ∧ decode cX11_stands 50 = .ok (.iload_n 1, 1) ∧ decode cX11_stands 51 = .ok (.invokevirtual 312, 3) ∧ decode cX11_stands 54 = .ok (.ifCond .ne 10, 3) ∧ decode cX11_stands 57 = .ok (.aload_n 0, 1) := by decide +kernel
theorem e_X11_stands_3 : decode cX11_stands 58 = .ok (.bipush 6, 2) ∧ decode cX11_stands 60 = .ok (.invokevirtual 132, 3) ∧ decode cX11_stands 63 = .ok (.ireturn, 1) ∧ decode cX11_stands 64 = .ok (.aload_n 0, 1) ∧ decode cX11_stands 65 = .ok (.iload_n 3, 1) ∧ decode cX11_stands 66 = .ok (.ifCond .ne 15, 3) ∧ decode cX11_stands 69 = .ok (.aload_n 0, 1) ∧ decode cX11_stands 70 = .ok (.getfield 64, 3) ∧ decode cX11_stands 73 = .ok (.getfield 315, 3) ∧ decode cX11_stands 76 = .ok (.iload_n 1, 1) := by decide +kernel
theorem e_X11_stands_4 : decode cX11_stands 77 = .ok (.iaload, 1) ∧ decode cX11_stands 78 = .ok (.goto 12, 3) ∧ decode cX11_stands 81 = .ok (.aload_n 0, 1) ∧ decode cX11_stands 82 = .ok (.getfield 64, 3) ∧ decode cX11_stands 85 = .ok (.getfield 318, 3) ∧ decode cX11_stands 88 = .ok (.iload_n 1, 1) ∧ decode cX11_stands 89 = .ok (.iaload, 1) ∧ decode cX11_stands 90 = .ok (.invokevirtual 176, 3) ∧ decode cX11_stands 93 = .ok (.ireturn, 1) := by decide +kernel
theorem S_X11_stands {G : Kg} {σ : Kmem} {Q : Int → Kmem → Prop} {l1 l2 l3 : Int}  (h : Run G WX M_X0_hasKite 0 0 0 [vA G 5, vI l1] σ (fun r1 s2 => (rI r1) ∧ ((r1 = 0 → Run G WX M_X11_deny 0 0 0 [vA G 0, vI 1] s2 (fun r4 s5 => Q r4 s5)) ∧ (r1 ≠ 0 → Run G WX M_X11_isHourOfDay 0 0 0 [vA G 0, vI l2] s2 (fun r6 s7 => (rI r6) ∧ ((r6 = 0 → Run G WX M_X11_deny 0 0 0 [vA G 0, vI 1] s7 (fun r9 s10 => Q r9 s10)) ∧ (r6 ≠ 0 → (rI l3) ∧ ((l3 < 0 → Run G WX M_X11_deny 0 0 0 [vA G 0, vI 1] s7 (fun r12 s13 => Q r12 s13)) ∧ (0 ≤ l3 → ((l3 ≤ 1 → Run G WX M_X8_look 3 0 0 [vA G 58, vA G 5, vI l2] s7 (fun r14 s15 => Run G WX M_X8_isUp 0 0 0 [vA G 58, vI l1] s15 (fun r16 s17 => (rI r16) ∧ ((r16 ≠ 0 → ((l3 ≠ 0 → (0 ≤ l1 ∧ l1 < 6) ∧ Run G WX M_X11_give 0 0 0 [vA G 0, vI (s17 60 l1)] s17 (fun r20 s21 => Q r20 s21)) ∧ (l3 = 0 → (0 ≤ l1 ∧ l1 < 6) ∧ Run G WX M_X11_give 0 0 0 [vA G 0, vI (s17 59 l1)] s17 (fun r23 s24 => Q r23 s24)))) ∧ (r16 = 0 → Run G WX M_X11_deny 0 0 0 [vA G 0, vI 6] s17 (fun r25 s26 => Q r25 s26)))))) ∧ (1 < l3 → Run G WX M_X11_deny 0 0 0 [vA G 0, vI 1] s7 (fun r27 s28 => Q r27 s28)))))))))))) : Run G WX M_X11_stands 4 0 0 [vA G 0, vI l1, vI l2, vI l3] σ Q := by
  refine Run.of (by decide +kernel) (by show (4 : Nat) ≤ 4; decide) ?_
  show Ex G WX M_X11_stands 4 0 0 0 [(0, vA G 0), (1, vI l1), (2, vI l2), (3, vI l3)] [] σ Q
  refine R_aload_n e_X11_stands_0.1 0 rfl ?_
  refine R_getA 11 7 5 e_X11_stands_0.2.1 f_X11_43 kx_0 (fun _ _ => rfl) rx_0_7 (by decide) ?_
  refine R_iload_n e_X11_stands_0.2.2.1 1 rfl ?_
  refine R_callV (mc := 0) (ms := 0) (mc' := 0) (ms' := 0) (M' := M_X0_hasKite) (d' := 0) (as := [vI l1]) (st := []) 0 1 e_X11_stands_0.2.2.2.1 (kCVof m_X0_hasKite l_X11_238) rfl (by decide) (kC_self isC_5) (by decide) (by decide) rfl rfl (by show (0 : Nat) ≤ 8; decide) ?_
  refine Run.mono h (fun r1 s2 h => ?_)
  refine R_eqs (st2 := [vI r1]) rfl rfl ?_
  obtain ⟨q3, h⟩ := h
  refine R_if_eq 28 e_X11_stands_0.2.2.2.2.1 (by decide) q3  (fun q => ?_) (fun q => ?_)
  · replace h := h.1 q
    refine R_aload_n e_X11_stands_1.2.2.2.2.1 0 rfl ?_
    refine R_iconst e_X11_stands_1.2.2.2.2.2.1 ?_
    refine R_callV (mc := 0) (ms := 0) (mc' := 0) (ms' := 0) (M' := M_X11_deny) (d' := 0) (as := [vI 1]) (st := []) 11 1 e_X11_stands_1.2.2.2.2.2.2.1 (kCVof m_X11_deny l_X11_132) rfl (by decide) kx_0 (by decide) (by decide) rfl rfl (by show (0 : Nat) ≤ 8; decide) ?_
    refine Run.mono h (fun r4 s5 h => ?_)
    refine R_eqs (st2 := [vI r4]) rfl rfl ?_
    exact R_ireturn e_X11_stands_1.2.2.2.2.2.2.2.1 rfl h
  · replace h := h.2 q
    refine R_aload_n e_X11_stands_0.2.2.2.2.2.1 0 rfl ?_
    refine R_iload_n e_X11_stands_0.2.2.2.2.2.2.1 2 rfl ?_
    refine R_callV (mc := 0) (ms := 0) (mc' := 0) (ms' := 0) (M' := M_X11_isHourOfDay) (d' := 0) (as := [vI l2]) (st := []) 11 1 e_X11_stands_0.2.2.2.2.2.2.2.1 (kCVof m_X11_isHourOfDay l_X11_228) rfl (by decide) kx_0 (by decide) (by decide) rfl rfl (by show (0 : Nat) ≤ 8; decide) ?_
    refine Run.mono h (fun r6 s7 h => ?_)
    refine R_eqs (st2 := [vI r6]) rfl rfl ?_
    obtain ⟨q8, h⟩ := h
    refine R_if_eq 28 e_X11_stands_0.2.2.2.2.2.2.2.2.1 (by decide) q8  (fun q => ?_) (fun q => ?_)
    · replace h := h.1 q
      refine R_aload_n e_X11_stands_1.2.2.2.2.1 0 rfl ?_
      refine R_iconst e_X11_stands_1.2.2.2.2.2.1 ?_
      refine R_callV (mc := 0) (ms := 0) (mc' := 0) (ms' := 0) (M' := M_X11_deny) (d' := 0) (as := [vI 1]) (st := []) 11 1 e_X11_stands_1.2.2.2.2.2.2.1 (kCVof m_X11_deny l_X11_132) rfl (by decide) kx_0 (by decide) (by decide) rfl rfl (by show (0 : Nat) ≤ 8; decide) ?_
      refine Run.mono h (fun r9 s10 h => ?_)
      refine R_eqs (st2 := [vI r9]) rfl rfl ?_
      exact R_ireturn e_X11_stands_1.2.2.2.2.2.2.2.1 rfl h
    · replace h := h.2 q
      refine R_iload_n e_X11_stands_0.2.2.2.2.2.2.2.2.2 3 rfl ?_
      obtain ⟨q11, h⟩ := h
      refine R_if_lt 28 e_X11_stands_1.1 (by decide) q11  (fun q => ?_) (fun q => ?_)
      · replace h := h.1 q
        refine R_aload_n e_X11_stands_1.2.2.2.2.1 0 rfl ?_
        refine R_iconst e_X11_stands_1.2.2.2.2.2.1 ?_
        refine R_callV (mc := 0) (ms := 0) (mc' := 0) (ms' := 0) (M' := M_X11_deny) (d' := 0) (as := [vI 1]) (st := []) 11 1 e_X11_stands_1.2.2.2.2.2.2.1 (kCVof m_X11_deny l_X11_132) rfl (by decide) kx_0 (by decide) (by decide) rfl rfl (by show (0 : Nat) ≤ 8; decide) ?_
        refine Run.mono h (fun r12 s13 h => ?_)
        refine R_eqs (st2 := [vI r12]) rfl rfl ?_
        exact R_ireturn e_X11_stands_1.2.2.2.2.2.2.2.1 rfl h
      · replace h := h.2 q
        refine R_iload_n e_X11_stands_1.2.1 3 rfl ?_
        refine R_iconst e_X11_stands_1.2.2.1 ?_
        refine R_icmp_le 34 e_X11_stands_1.2.2.2.1 (by decide) q11 (by decide) (fun q => ?_) (fun q => ?_)
        · replace h := h.1 q
          refine R_aload_n e_X11_stands_1.2.2.2.2.2.2.2.2.1 0 rfl ?_
          refine R_getA 11 10 58 e_X11_stands_1.2.2.2.2.2.2.2.2.2 f_X11_64 kx_0 (fun _ _ => rfl) rx_0_10 (by decide) ?_
          refine R_aload_n e_X11_stands_2.1 0 rfl ?_
          refine R_getA 11 7 5 e_X11_stands_2.2.1 f_X11_43 kx_0 (fun _ _ => rfl) rx_0_7 (by decide) ?_
          refine R_iload_n e_X11_stands_2.2.2.1 2 rfl ?_
          refine R_callV (mc := 0) (ms := 0) (mc' := 0) (ms' := 0) (M' := M_X8_look) (d' := 3) (as := [vA G 5, vI l2]) (st := []) 8 2 e_X11_stands_2.2.2.2.1 (kCVof m_X8_look l_X11_308) rfl (by decide) kx_58 (by decide) (by decide) rfl rfl (by show (0 : Nat) ≤ 8; decide) ?_
          refine Run.mono h (fun r14 s15 h => ?_)
          refine R_eqs (st2 := []) rfl rfl ?_
          refine R_aload_n e_X11_stands_2.2.2.2.2.1 0 rfl ?_
          refine R_getA 11 10 58 e_X11_stands_2.2.2.2.2.2.1 f_X11_64 kx_0 (fun _ _ => rfl) rx_0_10 (by decide) ?_
          refine R_iload_n e_X11_stands_2.2.2.2.2.2.2.1 1 rfl ?_
          refine R_callV (mc := 0) (ms := 0) (mc' := 0) (ms' := 0) (M' := M_X8_isUp) (d' := 0) (as := [vI l1]) (st := []) 8 1 e_X11_stands_2.2.2.2.2.2.2.2.1 (kCVof m_X8_isUp l_X11_312) rfl (by decide) kx_58 (by decide) (by decide) rfl rfl (by show (0 : Nat) ≤ 8; decide) ?_
          refine Run.mono h (fun r16 s17 h => ?_)
          refine R_eqs (st2 := [vI r16]) rfl rfl ?_
          obtain ⟨q18, h⟩ := h
          refine R_if_ne 64 e_X11_stands_2.2.2.2.2.2.2.2.2.1 (by decide) q18  (fun q => ?_) (fun q => ?_)
          · replace h := h.1 q
            refine R_aload_n e_X11_stands_3.2.2.2.1 0 rfl ?_
            refine R_iload_n e_X11_stands_3.2.2.2.2.1 3 rfl ?_
            refine R_if_ne 81 e_X11_stands_3.2.2.2.2.2.1 (by decide) q11  (fun q => ?_) (fun q => ?_)
            · replace h := h.1 q
              refine R_aload_n e_X11_stands_4.2.2.1 0 rfl ?_
              refine R_getA 11 10 58 e_X11_stands_4.2.2.2.1 f_X11_64 kx_0 (fun _ _ => rfl) rx_0_10 (by decide) ?_
              refine R_getA 8 3 60 e_X11_stands_4.2.2.2.2.1 f_X11_318 kx_58 (fun _ _ => rfl) rx_58_3 (by decide) ?_
              refine R_iload_n e_X11_stands_4.2.2.2.2.2.1 1 rfl ?_
              obtain ⟨q19, h⟩ := h
              refine R_iald 6 e_X11_stands_4.2.2.2.2.2.2.1 kxa_60 q19 ?_
              refine R_callV (mc := 0) (ms := 0) (mc' := 0) (ms' := 0) (M' := M_X11_give) (d' := 0) (as := [vI (s17 60 l1)]) (st := []) 11 1 e_X11_stands_4.2.2.2.2.2.2.2.1 (kCVof m_X11_give l_X11_176) rfl (by decide) kx_0 (by decide) (by decide) rfl rfl (by show (0 : Nat) ≤ 8; decide) ?_
              refine Run.mono h (fun r20 s21 h => ?_)
              refine R_eqs (st2 := [vI r20]) rfl rfl ?_
              exact R_ireturn e_X11_stands_4.2.2.2.2.2.2.2.2 rfl h
            · replace h := h.2 q
              refine R_aload_n e_X11_stands_3.2.2.2.2.2.2.1 0 rfl ?_
              refine R_getA 11 10 58 e_X11_stands_3.2.2.2.2.2.2.2.1 f_X11_64 kx_0 (fun _ _ => rfl) rx_0_10 (by decide) ?_
              refine R_getA 8 2 59 e_X11_stands_3.2.2.2.2.2.2.2.2.1 f_X11_315 kx_58 (fun _ _ => rfl) rx_58_2 (by decide) ?_
              refine R_iload_n e_X11_stands_3.2.2.2.2.2.2.2.2.2 1 rfl ?_
              obtain ⟨q22, h⟩ := h
              refine R_iald 6 e_X11_stands_4.1 kxa_59 q22 ?_
              refine R_goto 90 e_X11_stands_4.2.1 (by decide) ?_
              refine R_callV (mc := 0) (ms := 0) (mc' := 0) (ms' := 0) (M' := M_X11_give) (d' := 0) (as := [vI (s17 59 l1)]) (st := []) 11 1 e_X11_stands_4.2.2.2.2.2.2.2.1 (kCVof m_X11_give l_X11_176) rfl (by decide) kx_0 (by decide) (by decide) rfl rfl (by show (0 : Nat) ≤ 8; decide) ?_
              refine Run.mono h (fun r23 s24 h => ?_)
              refine R_eqs (st2 := [vI r23]) rfl rfl ?_
              exact R_ireturn e_X11_stands_4.2.2.2.2.2.2.2.2 rfl h
          · replace h := h.2 q
            refine R_aload_n e_X11_stands_2.2.2.2.2.2.2.2.2.2 0 rfl ?_
            refine R_bipush e_X11_stands_3.1 (by decide) ?_
            refine R_callV (mc := 0) (ms := 0) (mc' := 0) (ms' := 0) (M' := M_X11_deny) (d' := 0) (as := [vI 6]) (st := []) 11 1 e_X11_stands_3.2.1 (kCVof m_X11_deny l_X11_132) rfl (by decide) kx_0 (by decide) (by decide) rfl rfl (by show (0 : Nat) ≤ 8; decide) ?_
            refine Run.mono h (fun r25 s26 h => ?_)
            refine R_eqs (st2 := [vI r25]) rfl rfl ?_
            exact R_ireturn e_X11_stands_3.2.2.1 rfl h
        · replace h := h.2 q
          refine R_aload_n e_X11_stands_1.2.2.2.2.1 0 rfl ?_
          refine R_iconst e_X11_stands_1.2.2.2.2.2.1 ?_
          refine R_callV (mc := 0) (ms := 0) (mc' := 0) (ms' := 0) (M' := M_X11_deny) (d' := 0) (as := [vI 1]) (st := []) 11 1 e_X11_stands_1.2.2.2.2.2.2.1 (kCVof m_X11_deny l_X11_132) rfl (by decide) kx_0 (by decide) (by decide) rfl rfl (by show (0 : Nat) ≤ 8; decide) ?_
          refine Run.mono h (fun r27 s28 h => ?_)
          refine R_eqs (st2 := [vI r27]) rfl rfl ?_
          exact R_ireturn e_X11_stands_1.2.2.2.2.2.2.2.1 rfl h
/-! KiteLand.owner(III)I -/
theorem e_X11_owner_0 : decode cX11_owner 0 = .ok (.aload_n 0, 1) ∧ decode cX11_owner 1 = .ok (.getfield 43, 3) ∧ decode cX11_owner 4 = .ok (.iload_n 1, 1) ∧ decode cX11_owner 5 = .ok (.iload_n 2, 1) ∧ decode cX11_owner 6 = .ok (.invokevirtual 321, 3) ∧ decode cX11_owner 9 = .ok (.ifCond .eq 11, 3) ∧ decode cX11_owner 12 = .ok (.aload_n 0, 1) ∧ decode cX11_owner 13 = .ok (.iload_n 3, 1) ∧ decode cX11_owner 14 = .ok (.invokevirtual 228, 3) ∧ decode cX11_owner 17 = .ok (.ifCond .ne 9, 3) := by decide +kernel
theorem e_X11_owner_1 : decode cX11_owner 20 = .ok (.aload_n 0, 1) ∧ decode cX11_owner 21 = .ok (.iconst 1, 1) ∧ decode cX11_owner 22 = .ok (.invokevirtual 132, 3) ∧ decode cX11_owner 25 = .ok (.ireturn, 1) ∧ decode cX11_owner 26 = .ok (.aload_n 0, 1) ∧ decode cX11_owner 27 = .ok (.getfield 64, 3) ∧ decode cX11_owner 30 = .ok (.aload_n 0, 1) ∧ decode cX11_owner 31 = .ok (.getfield 43, 3) ∧ decode cX11_owner 34 = .ok (.iload_n 3, 1) ∧ decode cX11_owner 35 = .ok (.invokevirtual 308, 3) := by decide +kernel
theorem e_X11_owner_2 : decode cX11_owner 38 = .ok (.aload_n 0, 1) ∧ decode cX11_owner 39 = .ok (.getfield 64, 3) ∧ decode cX11_owner 42 = .ok (.iload_n 1, 1) ∧ decode cX11_owner 43 = .ok (.iload_n 2, 1) ∧ decode cX11_owner 44 = .ok (.invokevirtual 325, 3) ∧ decode cX11_owner 47 = .ok (.istore 4, 2) ∧ decode cX11_owner 49 = .ok (.iload 4, 2) ∧ decode cX11_owner 51 = .ok (.iconst (-1), 1) ∧ decode cX11_owner 52 = .ok (.if_icmp .ne 12, 3) ∧ decode cX11_owner 55 = .ok (.aload_n 0, 1) := by decide +kernel
theorem e_X11_owner_3 : decode cX11_owner 56 = .ok (.bipush 6, 2) ∧ decode cX11_owner 58 = .ok (.invokevirtual 132, 3) ∧ decode cX11_owner 61 = .ok (.goto 9, 3) ∧ decode cX11_owner 64 = .ok (.aload_n 0, 1) ∧ decode cX11_owner 65 = .ok (.iload 4, 2) ∧ decode cX11_owner 67 = .ok (.invokevirtual 176, 3) ∧ decode cX11_owner 70 = .ok (.ireturn, 1) := by decide +kernel
theorem S_X11_owner {G : Kg} {σ : Kmem} {Q : Int → Kmem → Prop} {l1 l2 l3 : Int}  (h : Run G WX M_X0_hasField 1 0 0 [vA G 5, vI l1, vI l2] σ (fun r1 s2 => (rI r1) ∧ ((r1 = 0 → Run G WX M_X11_deny 0 0 0 [vA G 0, vI 1] s2 (fun r4 s5 => Q r4 s5)) ∧ (r1 ≠ 0 → Run G WX M_X11_isHourOfDay 0 0 0 [vA G 0, vI l3] s2 (fun r6 s7 => (rI r6) ∧ ((r6 ≠ 0 → Run G WX M_X8_look 3 0 0 [vA G 58, vA G 5, vI l3] s7 (fun r9 s10 => Run G WX M_X8_ownerOf 0 0 0 [vA G 58, vI l1, vI l2] s10 (fun r11 s12 => (rI r11) ∧ ((r11 ≠ -1 → Run G WX M_X11_give 0 0 0 [vA G 0, vI r11] s12 (fun r14 s15 => Q r14 s15)) ∧ (r11 = -1 → Run G WX M_X11_deny 0 0 0 [vA G 0, vI 6] s12 (fun r16 s17 => Q r16 s17)))))) ∧ (r6 = 0 → Run G WX M_X11_deny 0 0 0 [vA G 0, vI 1] s7 (fun r18 s19 => Q r18 s19)))))))) : Run G WX M_X11_owner 4 0 0 [vA G 0, vI l1, vI l2, vI l3] σ Q := by
  refine Run.of (by decide +kernel) (by show (4 : Nat) ≤ 5; decide) ?_
  show Ex G WX M_X11_owner 4 0 0 0 [(0, vA G 0), (1, vI l1), (2, vI l2), (3, vI l3)] [] σ Q
  refine R_aload_n e_X11_owner_0.1 0 rfl ?_
  refine R_getA 11 7 5 e_X11_owner_0.2.1 f_X11_43 kx_0 (fun _ _ => rfl) rx_0_7 (by decide) ?_
  refine R_iload_n e_X11_owner_0.2.2.1 1 rfl ?_
  refine R_iload_n e_X11_owner_0.2.2.2.1 2 rfl ?_
  refine R_callV (mc := 0) (ms := 0) (mc' := 0) (ms' := 0) (M' := M_X0_hasField) (d' := 1) (as := [vI l1, vI l2]) (st := []) 0 2 e_X11_owner_0.2.2.2.2.1 (kCVof m_X0_hasField l_X11_321) rfl (by decide) (kC_self isC_5) (by decide) (by decide) rfl rfl (by show (0 : Nat) ≤ 8; decide) ?_
  refine Run.mono h (fun r1 s2 h => ?_)
  refine R_eqs (st2 := [vI r1]) rfl rfl ?_
  obtain ⟨q3, h⟩ := h
  refine R_if_eq 20 e_X11_owner_0.2.2.2.2.2.1 (by decide) q3  (fun q => ?_) (fun q => ?_)
  · replace h := h.1 q
    refine R_aload_n e_X11_owner_1.1 0 rfl ?_
    refine R_iconst e_X11_owner_1.2.1 ?_
    refine R_callV (mc := 0) (ms := 0) (mc' := 0) (ms' := 0) (M' := M_X11_deny) (d' := 0) (as := [vI 1]) (st := []) 11 1 e_X11_owner_1.2.2.1 (kCVof m_X11_deny l_X11_132) rfl (by decide) kx_0 (by decide) (by decide) rfl rfl (by show (0 : Nat) ≤ 8; decide) ?_
    refine Run.mono h (fun r4 s5 h => ?_)
    refine R_eqs (st2 := [vI r4]) rfl rfl ?_
    exact R_ireturn e_X11_owner_1.2.2.2.1 rfl h
  · replace h := h.2 q
    refine R_aload_n e_X11_owner_0.2.2.2.2.2.2.1 0 rfl ?_
    refine R_iload_n e_X11_owner_0.2.2.2.2.2.2.2.1 3 rfl ?_
    refine R_callV (mc := 0) (ms := 0) (mc' := 0) (ms' := 0) (M' := M_X11_isHourOfDay) (d' := 0) (as := [vI l3]) (st := []) 11 1 e_X11_owner_0.2.2.2.2.2.2.2.2.1 (kCVof m_X11_isHourOfDay l_X11_228) rfl (by decide) kx_0 (by decide) (by decide) rfl rfl (by show (0 : Nat) ≤ 8; decide) ?_
    refine Run.mono h (fun r6 s7 h => ?_)
    refine R_eqs (st2 := [vI r6]) rfl rfl ?_
    obtain ⟨q8, h⟩ := h
    refine R_if_ne 26 e_X11_owner_0.2.2.2.2.2.2.2.2.2 (by decide) q8  (fun q => ?_) (fun q => ?_)
    · replace h := h.1 q
      refine R_aload_n e_X11_owner_1.2.2.2.2.1 0 rfl ?_
      refine R_getA 11 10 58 e_X11_owner_1.2.2.2.2.2.1 f_X11_64 kx_0 (fun _ _ => rfl) rx_0_10 (by decide) ?_
      refine R_aload_n e_X11_owner_1.2.2.2.2.2.2.1 0 rfl ?_
      refine R_getA 11 7 5 e_X11_owner_1.2.2.2.2.2.2.2.1 f_X11_43 kx_0 (fun _ _ => rfl) rx_0_7 (by decide) ?_
      refine R_iload_n e_X11_owner_1.2.2.2.2.2.2.2.2.1 3 rfl ?_
      refine R_callV (mc := 0) (ms := 0) (mc' := 0) (ms' := 0) (M' := M_X8_look) (d' := 3) (as := [vA G 5, vI l3]) (st := []) 8 2 e_X11_owner_1.2.2.2.2.2.2.2.2.2 (kCVof m_X8_look l_X11_308) rfl (by decide) kx_58 (by decide) (by decide) rfl rfl (by show (0 : Nat) ≤ 8; decide) ?_
      refine Run.mono h (fun r9 s10 h => ?_)
      refine R_eqs (st2 := []) rfl rfl ?_
      refine R_aload_n e_X11_owner_2.1 0 rfl ?_
      refine R_getA 11 10 58 e_X11_owner_2.2.1 f_X11_64 kx_0 (fun _ _ => rfl) rx_0_10 (by decide) ?_
      refine R_iload_n e_X11_owner_2.2.2.1 1 rfl ?_
      refine R_iload_n e_X11_owner_2.2.2.2.1 2 rfl ?_
      refine R_callV (mc := 0) (ms := 0) (mc' := 0) (ms' := 0) (M' := M_X8_ownerOf) (d' := 0) (as := [vI l1, vI l2]) (st := []) 8 2 e_X11_owner_2.2.2.2.2.1 (kCVof m_X8_ownerOf l_X11_325) rfl (by decide) kx_58 (by decide) (by decide) rfl rfl (by show (0 : Nat) ≤ 8; decide) ?_
      refine Run.mono h (fun r11 s12 h => ?_)
      refine R_eqs (st2 := [vI r11]) rfl rfl ?_
      refine R_istore (ls2 := [(4, vI r11), (0, vA G 0), (1, vI l1), (2, vI l2), (3, vI l3)]) e_X11_owner_2.2.2.2.2.2.1 (by decide) rfl ?_
      refine R_iload e_X11_owner_2.2.2.2.2.2.2.1 0 rfl ?_
      refine R_iconst e_X11_owner_2.2.2.2.2.2.2.2.1 ?_
      obtain ⟨q13, h⟩ := h
      refine R_icmp_ne 64 e_X11_owner_2.2.2.2.2.2.2.2.2.1 (by decide) q13 (by decide) (fun q => ?_) (fun q => ?_)
      · replace h := h.1 q
        refine R_aload_n e_X11_owner_3.2.2.2.1 1 rfl ?_
        refine R_iload e_X11_owner_3.2.2.2.2.1 0 rfl ?_
        refine R_callV (mc := 0) (ms := 0) (mc' := 0) (ms' := 0) (M' := M_X11_give) (d' := 0) (as := [vI r11]) (st := []) 11 1 e_X11_owner_3.2.2.2.2.2.1 (kCVof m_X11_give l_X11_176) rfl (by decide) kx_0 (by decide) (by decide) rfl rfl (by show (0 : Nat) ≤ 8; decide) ?_
        refine Run.mono h (fun r14 s15 h => ?_)
        refine R_eqs (st2 := [vI r14]) rfl rfl ?_
        exact R_ireturn e_X11_owner_3.2.2.2.2.2.2 rfl h
      · replace h := h.2 q
        refine R_aload_n e_X11_owner_2.2.2.2.2.2.2.2.2.2 1 rfl ?_
        refine R_bipush e_X11_owner_3.1 (by decide) ?_
        refine R_callV (mc := 0) (ms := 0) (mc' := 0) (ms' := 0) (M' := M_X11_deny) (d' := 0) (as := [vI 6]) (st := []) 11 1 e_X11_owner_3.2.1 (kCVof m_X11_deny l_X11_132) rfl (by decide) kx_0 (by decide) (by decide) rfl rfl (by show (0 : Nat) ≤ 8; decide) ?_
        refine Run.mono h (fun r16 s17 h => ?_)
        refine R_eqs (st2 := [vI r16]) rfl rfl ?_
        refine R_goto 70 e_X11_owner_3.2.2.1 (by decide) ?_
        exact R_ireturn e_X11_owner_3.2.2.2.2.2.2 rfl h
    · replace h := h.2 q
      refine R_aload_n e_X11_owner_1.1 0 rfl ?_
      refine R_iconst e_X11_owner_1.2.1 ?_
      refine R_callV (mc := 0) (ms := 0) (mc' := 0) (ms' := 0) (M' := M_X11_deny) (d' := 0) (as := [vI 1]) (st := []) 11 1 e_X11_owner_1.2.2.1 (kCVof m_X11_deny l_X11_132) rfl (by decide) kx_0 (by decide) (by decide) rfl rfl (by show (0 : Nat) ≤ 8; decide) ?_
      refine Run.mono h (fun r18 s19 h => ?_)
      refine R_eqs (st2 := [vI r18]) rfl rfl ?_
      exact R_ireturn e_X11_owner_1.2.2.2.1 rfl h
/-! KiteLand.shaders(III)I -/
theorem e_X11_shaders_0 : decode cX11_shaders 0 = .ok (.aload_n 0, 1) ∧ decode cX11_shaders 1 = .ok (.getfield 43, 3) ∧ decode cX11_shaders 4 = .ok (.iload_n 1, 1) ∧ decode cX11_shaders 5 = .ok (.iload_n 2, 1) ∧ decode cX11_shaders 6 = .ok (.invokevirtual 321, 3) ∧ decode cX11_shaders 9 = .ok (.ifCond .eq 11, 3) ∧ decode cX11_shaders 12 = .ok (.aload_n 0, 1) ∧ decode cX11_shaders 13 = .ok (.iload_n 3, 1) ∧ decode cX11_shaders 14 = .ok (.invokevirtual 228, 3) ∧ decode cX11_shaders 17 = .ok (.ifCond .ne 9, 3) := by decide +kernel
theorem e_X11_shaders_1 : decode cX11_shaders 20 = .ok (.aload_n 0, 1) ∧ decode cX11_shaders 21 = .ok (.iconst 1, 1) ∧ decode cX11_shaders 22 = .ok (.invokevirtual 132, 3) ∧ decode cX11_shaders 25 = .ok (.ireturn, 1) ∧ decode cX11_shaders 26 = .ok (.aload_n 0, 1) ∧ decode cX11_shaders 27 = .ok (.getfield 64, 3) ∧ decode cX11_shaders 30 = .ok (.aload_n 0, 1) ∧ decode cX11_shaders 31 = .ok (.getfield 43, 3) ∧ decode cX11_shaders 34 = .ok (.iload_n 3, 1) ∧ decode cX11_shaders 35 = .ok (.invokevirtual 308, 3) := by decide +kernel
theorem e_X11_shaders_2 : decode cX11_shaders 38 = .ok (.aload_n 0, 1) ∧ decode cX11_shaders 39 = .ok (.aload_n 0, 1) ∧ decode cX11_shaders 40 = .ok (.getfield 64, 3) ∧ decode cX11_shaders 43 = .ok (.iload_n 1, 1) ∧ decode cX11_shaders 44 = .ok (.iload_n 2, 1) ∧ decode cX11_shaders 45 = .ok (.invokevirtual 328, 3) ∧ decode cX11_shaders 48 = .ok (.invokevirtual 176, 3) ∧ decode cX11_shaders 51 = .ok (.ireturn, 1) := by decide +kernel
theorem S_X11_shaders {G : Kg} {σ : Kmem} {Q : Int → Kmem → Prop} {l1 l2 l3 : Int}  (h : Run G WX M_X0_hasField 1 0 0 [vA G 5, vI l1, vI l2] σ (fun r1 s2 => (rI r1) ∧ ((r1 = 0 → Run G WX M_X11_deny 0 0 0 [vA G 0, vI 1] s2 (fun r4 s5 => Q r4 s5)) ∧ (r1 ≠ 0 → Run G WX M_X11_isHourOfDay 0 0 0 [vA G 0, vI l3] s2 (fun r6 s7 => (rI r6) ∧ ((r6 ≠ 0 → Run G WX M_X8_look 3 0 0 [vA G 58, vA G 5, vI l3] s7 (fun r9 s10 => Run G WX M_X8_shadersOf 0 0 0 [vA G 58, vI l1, vI l2] s10 (fun r11 s12 => Run G WX M_X11_give 0 0 0 [vA G 0, vI r11] s12 (fun r13 s14 => Q r13 s14)))) ∧ (r6 = 0 → Run G WX M_X11_deny 0 0 0 [vA G 0, vI 1] s7 (fun r15 s16 => Q r15 s16)))))))) : Run G WX M_X11_shaders 4 0 0 [vA G 0, vI l1, vI l2, vI l3] σ Q := by
  refine Run.of (by decide +kernel) (by show (4 : Nat) ≤ 4; decide) ?_
  show Ex G WX M_X11_shaders 4 0 0 0 [(0, vA G 0), (1, vI l1), (2, vI l2), (3, vI l3)] [] σ Q
  refine R_aload_n e_X11_shaders_0.1 0 rfl ?_
  refine R_getA 11 7 5 e_X11_shaders_0.2.1 f_X11_43 kx_0 (fun _ _ => rfl) rx_0_7 (by decide) ?_
  refine R_iload_n e_X11_shaders_0.2.2.1 1 rfl ?_
  refine R_iload_n e_X11_shaders_0.2.2.2.1 2 rfl ?_
  refine R_callV (mc := 0) (ms := 0) (mc' := 0) (ms' := 0) (M' := M_X0_hasField) (d' := 1) (as := [vI l1, vI l2]) (st := []) 0 2 e_X11_shaders_0.2.2.2.2.1 (kCVof m_X0_hasField l_X11_321) rfl (by decide) (kC_self isC_5) (by decide) (by decide) rfl rfl (by show (0 : Nat) ≤ 8; decide) ?_
  refine Run.mono h (fun r1 s2 h => ?_)
  refine R_eqs (st2 := [vI r1]) rfl rfl ?_
  obtain ⟨q3, h⟩ := h
  refine R_if_eq 20 e_X11_shaders_0.2.2.2.2.2.1 (by decide) q3  (fun q => ?_) (fun q => ?_)
  · replace h := h.1 q
    refine R_aload_n e_X11_shaders_1.1 0 rfl ?_
    refine R_iconst e_X11_shaders_1.2.1 ?_
    refine R_callV (mc := 0) (ms := 0) (mc' := 0) (ms' := 0) (M' := M_X11_deny) (d' := 0) (as := [vI 1]) (st := []) 11 1 e_X11_shaders_1.2.2.1 (kCVof m_X11_deny l_X11_132) rfl (by decide) kx_0 (by decide) (by decide) rfl rfl (by show (0 : Nat) ≤ 8; decide) ?_
    refine Run.mono h (fun r4 s5 h => ?_)
    refine R_eqs (st2 := [vI r4]) rfl rfl ?_
    exact R_ireturn e_X11_shaders_1.2.2.2.1 rfl h
  · replace h := h.2 q
    refine R_aload_n e_X11_shaders_0.2.2.2.2.2.2.1 0 rfl ?_
    refine R_iload_n e_X11_shaders_0.2.2.2.2.2.2.2.1 3 rfl ?_
    refine R_callV (mc := 0) (ms := 0) (mc' := 0) (ms' := 0) (M' := M_X11_isHourOfDay) (d' := 0) (as := [vI l3]) (st := []) 11 1 e_X11_shaders_0.2.2.2.2.2.2.2.2.1 (kCVof m_X11_isHourOfDay l_X11_228) rfl (by decide) kx_0 (by decide) (by decide) rfl rfl (by show (0 : Nat) ≤ 8; decide) ?_
    refine Run.mono h (fun r6 s7 h => ?_)
    refine R_eqs (st2 := [vI r6]) rfl rfl ?_
    obtain ⟨q8, h⟩ := h
    refine R_if_ne 26 e_X11_shaders_0.2.2.2.2.2.2.2.2.2 (by decide) q8  (fun q => ?_) (fun q => ?_)
    · replace h := h.1 q
      refine R_aload_n e_X11_shaders_1.2.2.2.2.1 0 rfl ?_
      refine R_getA 11 10 58 e_X11_shaders_1.2.2.2.2.2.1 f_X11_64 kx_0 (fun _ _ => rfl) rx_0_10 (by decide) ?_
      refine R_aload_n e_X11_shaders_1.2.2.2.2.2.2.1 0 rfl ?_
      refine R_getA 11 7 5 e_X11_shaders_1.2.2.2.2.2.2.2.1 f_X11_43 kx_0 (fun _ _ => rfl) rx_0_7 (by decide) ?_
      refine R_iload_n e_X11_shaders_1.2.2.2.2.2.2.2.2.1 3 rfl ?_
      refine R_callV (mc := 0) (ms := 0) (mc' := 0) (ms' := 0) (M' := M_X8_look) (d' := 3) (as := [vA G 5, vI l3]) (st := []) 8 2 e_X11_shaders_1.2.2.2.2.2.2.2.2.2 (kCVof m_X8_look l_X11_308) rfl (by decide) kx_58 (by decide) (by decide) rfl rfl (by show (0 : Nat) ≤ 8; decide) ?_
      refine Run.mono h (fun r9 s10 h => ?_)
      refine R_eqs (st2 := []) rfl rfl ?_
      refine R_aload_n e_X11_shaders_2.1 0 rfl ?_
      refine R_aload_n e_X11_shaders_2.2.1 0 rfl ?_
      refine R_getA 11 10 58 e_X11_shaders_2.2.2.1 f_X11_64 kx_0 (fun _ _ => rfl) rx_0_10 (by decide) ?_
      refine R_iload_n e_X11_shaders_2.2.2.2.1 1 rfl ?_
      refine R_iload_n e_X11_shaders_2.2.2.2.2.1 2 rfl ?_
      refine R_callV (mc := 0) (ms := 0) (mc' := 0) (ms' := 0) (M' := M_X8_shadersOf) (d' := 0) (as := [vI l1, vI l2]) (st := [vA G 0]) 8 2 e_X11_shaders_2.2.2.2.2.2.1 (kCVof m_X8_shadersOf l_X11_328) rfl (by decide) kx_58 (by decide) (by decide) rfl rfl (by show (1 : Nat) ≤ 8; decide) ?_
      refine Run.mono h (fun r11 s12 h => ?_)
      refine R_eqs (st2 := [vI r11, vA G 0]) rfl rfl ?_
      refine R_callV (mc := 0) (ms := 0) (mc' := 0) (ms' := 0) (M' := M_X11_give) (d' := 0) (as := [vI r11]) (st := []) 11 1 e_X11_shaders_2.2.2.2.2.2.2.1 (kCVof m_X11_give l_X11_176) rfl (by decide) kx_0 (by decide) (by decide) rfl rfl (by show (0 : Nat) ≤ 8; decide) ?_
      refine Run.mono h (fun r13 s14 h => ?_)
      refine R_eqs (st2 := [vI r13]) rfl rfl ?_
      exact R_ireturn e_X11_shaders_2.2.2.2.2.2.2.2 rfl h
    · replace h := h.2 q
      refine R_aload_n e_X11_shaders_1.1 0 rfl ?_
      refine R_iconst e_X11_shaders_1.2.1 ?_
      refine R_callV (mc := 0) (ms := 0) (mc' := 0) (ms' := 0) (M' := M_X11_deny) (d' := 0) (as := [vI 1]) (st := []) 11 1 e_X11_shaders_1.2.2.1 (kCVof m_X11_deny l_X11_132) rfl (by decide) kx_0 (by decide) (by decide) rfl rfl (by show (0 : Nat) ≤ 8; decide) ?_
      refine Run.mono h (fun r15 s16 h => ?_)
      refine R_eqs (st2 := [vI r15]) rfl rfl ?_
      exact R_ireturn e_X11_shaders_1.2.2.2.1 rfl h
/-! KiteLand.estate(II)I -/
theorem e_X11_estate_0 : decode cX11_estate 0 = .ok (.aload_n 0, 1) ∧ decode cX11_estate 1 = .ok (.getfield 43, 3) ∧ decode cX11_estate 4 = .ok (.iload_n 1, 1) ∧ decode cX11_estate 5 = .ok (.invokevirtual 238, 3) ∧ decode cX11_estate 8 = .ok (.ifCond .eq 11, 3) ∧ decode cX11_estate 11 = .ok (.aload_n 0, 1) ∧ decode cX11_estate 12 = .ok (.iload_n 2, 1) ∧ decode cX11_estate 13 = .ok (.invokevirtual 228, 3) ∧ decode cX11_estate 16 = .ok (.ifCond .ne 9, 3) ∧ decode cX11_estate 19 = .ok (.aload_n 0, 1) := by decide +kernel
theorem e_X11_estate_1 : decode cX11_estate 20 = .ok (.iconst 1, 1) ∧ decode cX11_estate 21 = .ok (.invokevirtual 132, 3) ∧ decode cX11_estate 24 = .ok (.ireturn, 1) ∧ decode cX11_estate 25 = .ok (.aload_n 0, 1) ∧ decode cX11_estate 26 = .ok (.getfield 64, 3) ∧ decode cX11_estate 29 = .ok (.aload_n 0, 1) ∧ decode cX11_estate 30 = .ok (.getfield 43, 3) ∧ decode cX11_estate 33 = .ok (.iload_n 2, 1) ∧ decode cX11_estate 34 = .ok (.invokevirtual 308, 3) ∧ decode cX11_estate 37 = .ok (.aload_n 0, 1) := by decide +kernel
theorem e_X11_estate_2 : decode cX11_estate 38 = .ok (.aload_n 0, 1) ∧ decode cX11_estate 39 = .ok (.getfield 64, 3) ∧ decode cX11_estate 42 = .ok (.iload_n 1, 1) ∧ decode cX11_estate 43 = .ok (.invokevirtual 331, 3) ∧ decode cX11_estate 46 = .ok (.invokevirtual 176, 3) ∧ decode cX11_estate 49 = .ok (.ireturn, 1) := by decide +kernel
theorem S_X11_estate {G : Kg} {σ : Kmem} {Q : Int → Kmem → Prop} {l1 l2 : Int}  (h : Run G WX M_X0_hasKite 0 0 0 [vA G 5, vI l1] σ (fun r1 s2 => (rI r1) ∧ ((r1 = 0 → Run G WX M_X11_deny 0 0 0 [vA G 0, vI 1] s2 (fun r4 s5 => Q r4 s5)) ∧ (r1 ≠ 0 → Run G WX M_X11_isHourOfDay 0 0 0 [vA G 0, vI l2] s2 (fun r6 s7 => (rI r6) ∧ ((r6 ≠ 0 → Run G WX M_X8_look 3 0 0 [vA G 58, vA G 5, vI l2] s7 (fun r9 s10 => Run G WX M_X8_fieldsOf 0 0 0 [vA G 58, vI l1] s10 (fun r11 s12 => Run G WX M_X11_give 0 0 0 [vA G 0, vI r11] s12 (fun r13 s14 => Q r13 s14)))) ∧ (r6 = 0 → Run G WX M_X11_deny 0 0 0 [vA G 0, vI 1] s7 (fun r15 s16 => Q r15 s16)))))))) : Run G WX M_X11_estate 4 0 0 [vA G 0, vI l1, vI l2] σ Q := by
  refine Run.of (by decide +kernel) (by show (3 : Nat) ≤ 3; decide) ?_
  show Ex G WX M_X11_estate 4 0 0 0 [(0, vA G 0), (1, vI l1), (2, vI l2)] [] σ Q
  refine R_aload_n e_X11_estate_0.1 0 rfl ?_
  refine R_getA 11 7 5 e_X11_estate_0.2.1 f_X11_43 kx_0 (fun _ _ => rfl) rx_0_7 (by decide) ?_
  refine R_iload_n e_X11_estate_0.2.2.1 1 rfl ?_
  refine R_callV (mc := 0) (ms := 0) (mc' := 0) (ms' := 0) (M' := M_X0_hasKite) (d' := 0) (as := [vI l1]) (st := []) 0 1 e_X11_estate_0.2.2.2.1 (kCVof m_X0_hasKite l_X11_238) rfl (by decide) (kC_self isC_5) (by decide) (by decide) rfl rfl (by show (0 : Nat) ≤ 8; decide) ?_
  refine Run.mono h (fun r1 s2 h => ?_)
  refine R_eqs (st2 := [vI r1]) rfl rfl ?_
  obtain ⟨q3, h⟩ := h
  refine R_if_eq 19 e_X11_estate_0.2.2.2.2.1 (by decide) q3  (fun q => ?_) (fun q => ?_)
  · replace h := h.1 q
    refine R_aload_n e_X11_estate_0.2.2.2.2.2.2.2.2.2 0 rfl ?_
    refine R_iconst e_X11_estate_1.1 ?_
    refine R_callV (mc := 0) (ms := 0) (mc' := 0) (ms' := 0) (M' := M_X11_deny) (d' := 0) (as := [vI 1]) (st := []) 11 1 e_X11_estate_1.2.1 (kCVof m_X11_deny l_X11_132) rfl (by decide) kx_0 (by decide) (by decide) rfl rfl (by show (0 : Nat) ≤ 8; decide) ?_
    refine Run.mono h (fun r4 s5 h => ?_)
    refine R_eqs (st2 := [vI r4]) rfl rfl ?_
    exact R_ireturn e_X11_estate_1.2.2.1 rfl h
  · replace h := h.2 q
    refine R_aload_n e_X11_estate_0.2.2.2.2.2.1 0 rfl ?_
    refine R_iload_n e_X11_estate_0.2.2.2.2.2.2.1 2 rfl ?_
    refine R_callV (mc := 0) (ms := 0) (mc' := 0) (ms' := 0) (M' := M_X11_isHourOfDay) (d' := 0) (as := [vI l2]) (st := []) 11 1 e_X11_estate_0.2.2.2.2.2.2.2.1 (kCVof m_X11_isHourOfDay l_X11_228) rfl (by decide) kx_0 (by decide) (by decide) rfl rfl (by show (0 : Nat) ≤ 8; decide) ?_
    refine Run.mono h (fun r6 s7 h => ?_)
    refine R_eqs (st2 := [vI r6]) rfl rfl ?_
    obtain ⟨q8, h⟩ := h
    refine R_if_ne 25 e_X11_estate_0.2.2.2.2.2.2.2.2.1 (by decide) q8  (fun q => ?_) (fun q => ?_)
    · replace h := h.1 q
      refine R_aload_n e_X11_estate_1.2.2.2.1 0 rfl ?_
      refine R_getA 11 10 58 e_X11_estate_1.2.2.2.2.1 f_X11_64 kx_0 (fun _ _ => rfl) rx_0_10 (by decide) ?_
      refine R_aload_n e_X11_estate_1.2.2.2.2.2.1 0 rfl ?_
      refine R_getA 11 7 5 e_X11_estate_1.2.2.2.2.2.2.1 f_X11_43 kx_0 (fun _ _ => rfl) rx_0_7 (by decide) ?_
      refine R_iload_n e_X11_estate_1.2.2.2.2.2.2.2.1 2 rfl ?_
      refine R_callV (mc := 0) (ms := 0) (mc' := 0) (ms' := 0) (M' := M_X8_look) (d' := 3) (as := [vA G 5, vI l2]) (st := []) 8 2 e_X11_estate_1.2.2.2.2.2.2.2.2.1 (kCVof m_X8_look l_X11_308) rfl (by decide) kx_58 (by decide) (by decide) rfl rfl (by show (0 : Nat) ≤ 8; decide) ?_
      refine Run.mono h (fun r9 s10 h => ?_)
      refine R_eqs (st2 := []) rfl rfl ?_
      refine R_aload_n e_X11_estate_1.2.2.2.2.2.2.2.2.2 0 rfl ?_
      refine R_aload_n e_X11_estate_2.1 0 rfl ?_
      refine R_getA 11 10 58 e_X11_estate_2.2.1 f_X11_64 kx_0 (fun _ _ => rfl) rx_0_10 (by decide) ?_
      refine R_iload_n e_X11_estate_2.2.2.1 1 rfl ?_
      refine R_callV (mc := 0) (ms := 0) (mc' := 0) (ms' := 0) (M' := M_X8_fieldsOf) (d' := 0) (as := [vI l1]) (st := [vA G 0]) 8 1 e_X11_estate_2.2.2.2.1 (kCVof m_X8_fieldsOf l_X11_331) rfl (by decide) kx_58 (by decide) (by decide) rfl rfl (by show (1 : Nat) ≤ 8; decide) ?_
      refine Run.mono h (fun r11 s12 h => ?_)
      refine R_eqs (st2 := [vI r11, vA G 0]) rfl rfl ?_
      refine R_callV (mc := 0) (ms := 0) (mc' := 0) (ms' := 0) (M' := M_X11_give) (d' := 0) (as := [vI r11]) (st := []) 11 1 e_X11_estate_2.2.2.2.2.1 (kCVof m_X11_give l_X11_176) rfl (by decide) kx_0 (by decide) (by decide) rfl rfl (by show (0 : Nat) ≤ 8; decide) ?_
      refine Run.mono h (fun r13 s14 h => ?_)
      refine R_eqs (st2 := [vI r13]) rfl rfl ?_
      exact R_ireturn e_X11_estate_2.2.2.2.2.2 rfl h
    · replace h := h.2 q
      refine R_aload_n e_X11_estate_0.2.2.2.2.2.2.2.2.2 0 rfl ?_
      refine R_iconst e_X11_estate_1.1 ?_
      refine R_callV (mc := 0) (ms := 0) (mc' := 0) (ms' := 0) (M' := M_X11_deny) (d' := 0) (as := [vI 1]) (st := []) 11 1 e_X11_estate_1.2.1 (kCVof m_X11_deny l_X11_132) rfl (by decide) kx_0 (by decide) (by decide) rfl rfl (by show (0 : Nat) ≤ 8; decide) ?_
      refine Run.mono h (fun r15 s16 h => ?_)
      refine R_eqs (st2 := [vI r15]) rfl rfl ?_
      exact R_ireturn e_X11_estate_1.2.2.1 rfl h
/-! KiteLand.nobodys(I)I -/
theorem e_X11_nobodys_0 : decode cX11_nobodys 0 = .ok (.aload_n 0, 1) ∧ decode cX11_nobodys 1 = .ok (.iload_n 1, 1) ∧ decode cX11_nobodys 2 = .ok (.invokevirtual 228, 3) ∧ decode cX11_nobodys 5 = .ok (.ifCond .ne 9, 3) ∧ decode cX11_nobodys 8 = .ok (.aload_n 0, 1) ∧ decode cX11_nobodys 9 = .ok (.iconst 1, 1) ∧ decode cX11_nobodys 10 = .ok (.invokevirtual 132, 3) ∧ decode cX11_nobodys 13 = .ok (.ireturn, 1) ∧ decode cX11_nobodys 14 = .ok (.aload_n 0, 1) ∧ decode cX11_nobodys 15 = .ok (.getfield 64, 3) := by decide +kernel
theorem e_X11_nobodys_1 : decode cX11_nobodys 18 = .ok (.aload_n 0, 1) ∧ decode cX11_nobodys 19 = .ok (.getfield 43, 3) ∧ decode cX11_nobodys 22 = .ok (.iload_n 1, 1) ∧ decode cX11_nobodys 23 = .ok (.invokevirtual 308, 3) ∧ decode cX11_nobodys 26 = .ok (.aload_n 0, 1) ∧ decode cX11_nobodys 27 = .ok (.aload_n 0, 1) ∧ decode cX11_nobodys 28 = .ok (.getfield 43, 3) ∧ decode cX11_nobodys 31 = .ok (.getfield 194, 3) ∧ decode cX11_nobodys 34 = .ok (.aload_n 0, 1) ∧ decode cX11_nobodys 35 = .ok (.getfield 43, 3) := by decide +kernel
theorem e_X11_nobodys_2 : decode cX11_nobodys 38 = .ok (.getfield 197, 3) ∧ decode cX11_nobodys 41 = .ok (.imul, 1) ∧ decode cX11_nobodys 42 = .ok (.aload_n 0, 1) ∧ decode cX11_nobodys 43 = .ok (.getfield 64, 3) ∧ decode cX11_nobodys 46 = .ok (.invokevirtual 334, 3) ∧ decode cX11_nobodys 49 = .ok (.isub, 1) ∧ decode cX11_nobodys 50 = .ok (.invokevirtual 176, 3) ∧ decode cX11_nobodys 53 = .ok (.ireturn, 1) := by decide +kernel
theorem S_X11_nobodys {G : Kg} {σ : Kmem} {Q : Int → Kmem → Prop} {l1 : Int}  (h : Run G WX M_X11_isHourOfDay 0 0 0 [vA G 0, vI l1] σ (fun r1 s2 => (rI r1) ∧ ((r1 ≠ 0 → Run G WX M_X8_look 3 0 0 [vA G 58, vA G 5, vI l1] s2 (fun r4 s5 => Run G WX M_X8_ownedFields 0 0 0 [vA G 58] s5 (fun r6 s7 => Run G WX M_X11_give 0 0 0 [vA G 0, vI (((s5 5 0) * (s5 5 1)) - r6)] s7 (fun r8 s9 => Q r8 s9)))) ∧ (r1 = 0 → Run G WX M_X11_deny 0 0 0 [vA G 0, vI 1] s2 (fun r10 s11 => Q r10 s11))))) : Run G WX M_X11_nobodys 4 0 0 [vA G 0, vI l1] σ Q := by
  refine Run.of (by decide +kernel) (by show (2 : Nat) ≤ 2; decide) ?_
  show Ex G WX M_X11_nobodys 4 0 0 0 [(0, vA G 0), (1, vI l1)] [] σ Q
  refine R_aload_n e_X11_nobodys_0.1 0 rfl ?_
  refine R_iload_n e_X11_nobodys_0.2.1 1 rfl ?_
  refine R_callV (mc := 0) (ms := 0) (mc' := 0) (ms' := 0) (M' := M_X11_isHourOfDay) (d' := 0) (as := [vI l1]) (st := []) 11 1 e_X11_nobodys_0.2.2.1 (kCVof m_X11_isHourOfDay l_X11_228) rfl (by decide) kx_0 (by decide) (by decide) rfl rfl (by show (0 : Nat) ≤ 8; decide) ?_
  refine Run.mono h (fun r1 s2 h => ?_)
  refine R_eqs (st2 := [vI r1]) rfl rfl ?_
  obtain ⟨q3, h⟩ := h
  refine R_if_ne 14 e_X11_nobodys_0.2.2.2.1 (by decide) q3  (fun q => ?_) (fun q => ?_)
  · replace h := h.1 q
    refine R_aload_n e_X11_nobodys_0.2.2.2.2.2.2.2.2.1 0 rfl ?_
    refine R_getA 11 10 58 e_X11_nobodys_0.2.2.2.2.2.2.2.2.2 f_X11_64 kx_0 (fun _ _ => rfl) rx_0_10 (by decide) ?_
    refine R_aload_n e_X11_nobodys_1.1 0 rfl ?_
    refine R_getA 11 7 5 e_X11_nobodys_1.2.1 f_X11_43 kx_0 (fun _ _ => rfl) rx_0_7 (by decide) ?_
    refine R_iload_n e_X11_nobodys_1.2.2.1 1 rfl ?_
    refine R_callV (mc := 0) (ms := 0) (mc' := 0) (ms' := 0) (M' := M_X8_look) (d' := 3) (as := [vA G 5, vI l1]) (st := []) 8 2 e_X11_nobodys_1.2.2.2.1 (kCVof m_X8_look l_X11_308) rfl (by decide) kx_58 (by decide) (by decide) rfl rfl (by show (0 : Nat) ≤ 8; decide) ?_
    refine Run.mono h (fun r4 s5 h => ?_)
    refine R_eqs (st2 := []) rfl rfl ?_
    refine R_aload_n e_X11_nobodys_1.2.2.2.2.1 0 rfl ?_
    refine R_aload_n e_X11_nobodys_1.2.2.2.2.2.1 0 rfl ?_
    refine R_getA 11 7 5 e_X11_nobodys_1.2.2.2.2.2.2.1 f_X11_43 kx_0 (fun _ _ => rfl) rx_0_7 (by decide) ?_
    refine R_getI 0 0 0 e_X11_nobodys_1.2.2.2.2.2.2.2.1 f_X11_194 (kC_self isC_5) (fun _ _ => rfl) rfl ?_
    refine R_aload_n e_X11_nobodys_1.2.2.2.2.2.2.2.2.1 0 rfl ?_
    refine R_getA 11 7 5 e_X11_nobodys_1.2.2.2.2.2.2.2.2.2 f_X11_43 kx_0 (fun _ _ => rfl) rx_0_7 (by decide) ?_
    refine R_getI 0 1 1 e_X11_nobodys_2.1 f_X11_197 (kC_self isC_5) (fun _ _ => rfl) rfl ?_
    refine R_imul e_X11_nobodys_2.2.1 ?_
    refine R_aload_n e_X11_nobodys_2.2.2.1 0 rfl ?_
    refine R_getA 11 10 58 e_X11_nobodys_2.2.2.2.1 f_X11_64 kx_0 (fun _ _ => rfl) rx_0_10 (by decide) ?_
    refine R_callV (mc := 0) (ms := 0) (mc' := 0) (ms' := 0) (M' := M_X8_ownedFields) (d' := 0) (as := []) (st := [vI ((s5 5 0) * (s5 5 1)), vA G 0]) 8 0 e_X11_nobodys_2.2.2.2.2.1 (kCVof m_X8_ownedFields l_X11_334) rfl (by decide) kx_58 (by decide) (by decide) rfl rfl (by show (2 : Nat) ≤ 8; decide) ?_
    refine Run.mono h (fun r6 s7 h => ?_)
    refine R_eqs (st2 := [vI r6, vI ((s5 5 0) * (s5 5 1)), vA G 0]) rfl rfl ?_
    refine R_isub e_X11_nobodys_2.2.2.2.2.2.1 ?_
    refine R_callV (mc := 0) (ms := 0) (mc' := 0) (ms' := 0) (M' := M_X11_give) (d' := 0) (as := [vI (((s5 5 0) * (s5 5 1)) - r6)]) (st := []) 11 1 e_X11_nobodys_2.2.2.2.2.2.2.1 (kCVof m_X11_give l_X11_176) rfl (by decide) kx_0 (by decide) (by decide) rfl rfl (by show (0 : Nat) ≤ 8; decide) ?_
    refine Run.mono h (fun r8 s9 h => ?_)
    refine R_eqs (st2 := [vI r8]) rfl rfl ?_
    exact R_ireturn e_X11_nobodys_2.2.2.2.2.2.2.2 rfl h
  · replace h := h.2 q
    refine R_aload_n e_X11_nobodys_0.2.2.2.2.1 0 rfl ?_
    refine R_iconst e_X11_nobodys_0.2.2.2.2.2.1 ?_
    refine R_callV (mc := 0) (ms := 0) (mc' := 0) (ms' := 0) (M' := M_X11_deny) (d' := 0) (as := [vI 1]) (st := []) 11 1 e_X11_nobodys_0.2.2.2.2.2.2.1 (kCVof m_X11_deny l_X11_132) rfl (by decide) kx_0 (by decide) (by decide) rfl rfl (by show (0 : Nat) ≤ 8; decide) ?_
    refine Run.mono h (fun r10 s11 h => ?_)
    refine R_eqs (st2 := [vI r10]) rfl rfl ?_
    exact R_ireturn e_X11_nobodys_0.2.2.2.2.2.2.2.1 rfl h
/-! KiteLand.disputed(I)I -/
theorem e_X11_disputed_0 : decode cX11_disputed 0 = .ok (.aload_n 0, 1) ∧ decode cX11_disputed 1 = .ok (.iload_n 1, 1) ∧ decode cX11_disputed 2 = .ok (.invokevirtual 228, 3) ∧ decode cX11_disputed 5 = .ok (.ifCond .ne 9, 3) ∧ decode cX11_disputed 8 = .ok (.aload_n 0, 1) ∧ decode cX11_disputed 9 = .ok (.iconst 1, 1) ∧ decode cX11_disputed 10 = .ok (.invokevirtual 132, 3) ∧ decode cX11_disputed 13 = .ok (.ireturn, 1) ∧ decode cX11_disputed 14 = .ok (.aload_n 0, 1) ∧ decode cX11_disputed 15 = .ok (.getfield 64, 3) := by decide +kernel
theorem e_X11_disputed_1 : decode cX11_disputed 18 = .ok (.aload_n 0, 1) ∧ decode cX11_disputed 19 = .ok (.getfield 43, 3) ∧ decode cX11_disputed 22 = .ok (.iload_n 1, 1) ∧ decode cX11_disputed 23 = .ok (.invokevirtual 308, 3) ∧ decode cX11_disputed 26 = .ok (.aload_n 0, 1) ∧ decode cX11_disputed 27 = .ok (.aload_n 0, 1) ∧ decode cX11_disputed 28 = .ok (.getfield 64, 3) ∧ decode cX11_disputed 31 = .ok (.invokevirtual 337, 3) ∧ decode cX11_disputed 34 = .ok (.invokevirtual 176, 3) ∧ decode cX11_disputed 37 = .ok (.ireturn, 1) := by decide +kernel
theorem S_X11_disputed {G : Kg} {σ : Kmem} {Q : Int → Kmem → Prop} {l1 : Int}  (h : Run G WX M_X11_isHourOfDay 0 0 0 [vA G 0, vI l1] σ (fun r1 s2 => (rI r1) ∧ ((r1 ≠ 0 → Run G WX M_X8_look 3 0 0 [vA G 58, vA G 5, vI l1] s2 (fun r4 s5 => Run G WX M_X8_disputedFields 1 0 0 [vA G 58] s5 (fun r6 s7 => Run G WX M_X11_give 0 0 0 [vA G 0, vI r6] s7 (fun r8 s9 => Q r8 s9)))) ∧ (r1 = 0 → Run G WX M_X11_deny 0 0 0 [vA G 0, vI 1] s2 (fun r10 s11 => Q r10 s11))))) : Run G WX M_X11_disputed 4 0 0 [vA G 0, vI l1] σ Q := by
  refine Run.of (by decide +kernel) (by show (2 : Nat) ≤ 2; decide) ?_
  show Ex G WX M_X11_disputed 4 0 0 0 [(0, vA G 0), (1, vI l1)] [] σ Q
  refine R_aload_n e_X11_disputed_0.1 0 rfl ?_
  refine R_iload_n e_X11_disputed_0.2.1 1 rfl ?_
  refine R_callV (mc := 0) (ms := 0) (mc' := 0) (ms' := 0) (M' := M_X11_isHourOfDay) (d' := 0) (as := [vI l1]) (st := []) 11 1 e_X11_disputed_0.2.2.1 (kCVof m_X11_isHourOfDay l_X11_228) rfl (by decide) kx_0 (by decide) (by decide) rfl rfl (by show (0 : Nat) ≤ 8; decide) ?_
  refine Run.mono h (fun r1 s2 h => ?_)
  refine R_eqs (st2 := [vI r1]) rfl rfl ?_
  obtain ⟨q3, h⟩ := h
  refine R_if_ne 14 e_X11_disputed_0.2.2.2.1 (by decide) q3  (fun q => ?_) (fun q => ?_)
  · replace h := h.1 q
    refine R_aload_n e_X11_disputed_0.2.2.2.2.2.2.2.2.1 0 rfl ?_
    refine R_getA 11 10 58 e_X11_disputed_0.2.2.2.2.2.2.2.2.2 f_X11_64 kx_0 (fun _ _ => rfl) rx_0_10 (by decide) ?_
    refine R_aload_n e_X11_disputed_1.1 0 rfl ?_
    refine R_getA 11 7 5 e_X11_disputed_1.2.1 f_X11_43 kx_0 (fun _ _ => rfl) rx_0_7 (by decide) ?_
    refine R_iload_n e_X11_disputed_1.2.2.1 1 rfl ?_
    refine R_callV (mc := 0) (ms := 0) (mc' := 0) (ms' := 0) (M' := M_X8_look) (d' := 3) (as := [vA G 5, vI l1]) (st := []) 8 2 e_X11_disputed_1.2.2.2.1 (kCVof m_X8_look l_X11_308) rfl (by decide) kx_58 (by decide) (by decide) rfl rfl (by show (0 : Nat) ≤ 8; decide) ?_
    refine Run.mono h (fun r4 s5 h => ?_)
    refine R_eqs (st2 := []) rfl rfl ?_
    refine R_aload_n e_X11_disputed_1.2.2.2.2.1 0 rfl ?_
    refine R_aload_n e_X11_disputed_1.2.2.2.2.2.1 0 rfl ?_
    refine R_getA 11 10 58 e_X11_disputed_1.2.2.2.2.2.2.1 f_X11_64 kx_0 (fun _ _ => rfl) rx_0_10 (by decide) ?_
    refine R_callV (mc := 0) (ms := 0) (mc' := 0) (ms' := 0) (M' := M_X8_disputedFields) (d' := 1) (as := []) (st := [vA G 0]) 8 0 e_X11_disputed_1.2.2.2.2.2.2.2.1 (kCVof m_X8_disputedFields l_X11_337) rfl (by decide) kx_58 (by decide) (by decide) rfl rfl (by show (1 : Nat) ≤ 8; decide) ?_
    refine Run.mono h (fun r6 s7 h => ?_)
    refine R_eqs (st2 := [vI r6, vA G 0]) rfl rfl ?_
    refine R_callV (mc := 0) (ms := 0) (mc' := 0) (ms' := 0) (M' := M_X11_give) (d' := 0) (as := [vI r6]) (st := []) 11 1 e_X11_disputed_1.2.2.2.2.2.2.2.2.1 (kCVof m_X11_give l_X11_176) rfl (by decide) kx_0 (by decide) (by decide) rfl rfl (by show (0 : Nat) ≤ 8; decide) ?_
    refine Run.mono h (fun r8 s9 h => ?_)
    refine R_eqs (st2 := [vI r8]) rfl rfl ?_
    exact R_ireturn e_X11_disputed_1.2.2.2.2.2.2.2.2.2 rfl h
  · replace h := h.2 q
    refine R_aload_n e_X11_disputed_0.2.2.2.2.1 0 rfl ?_
    refine R_iconst e_X11_disputed_0.2.2.2.2.2.1 ?_
    refine R_callV (mc := 0) (ms := 0) (mc' := 0) (ms' := 0) (M' := M_X11_deny) (d' := 0) (as := [vI 1]) (st := []) 11 1 e_X11_disputed_0.2.2.2.2.2.2.1 (kCVof m_X11_deny l_X11_132) rfl (by decide) kx_0 (by decide) (by decide) rfl rfl (by show (0 : Nat) ≤ 8; decide) ?_
    refine Run.mono h (fun r10 s11 h => ?_)
    refine R_eqs (st2 := [vI r10]) rfl rfl ?_
    exact R_ireturn e_X11_disputed_0.2.2.2.2.2.2.2.1 rfl h
/-! KiteLand.crosses(III)I -/
theorem e_X11_crosses_0 : decode cX11_crosses 0 = .ok (.aload_n 0, 1) ∧ decode cX11_crosses 1 = .ok (.getfield 43, 3) ∧ decode cX11_crosses 4 = .ok (.iload_n 1, 1) ∧ decode cX11_crosses 5 = .ok (.invokevirtual 238, 3) ∧ decode cX11_crosses 8 = .ok (.ifCond .eq 27, 3) ∧ decode cX11_crosses 11 = .ok (.aload_n 0, 1) ∧ decode cX11_crosses 12 = .ok (.getfield 43, 3) ∧ decode cX11_crosses 15 = .ok (.iload_n 2, 1) ∧ decode cX11_crosses 16 = .ok (.invokevirtual 238, 3) ∧ decode cX11_crosses 19 = .ok (.ifCond .eq 16, 3) := by decide +kernel
theorem e_X11_crosses_1 : decode cX11_crosses 22 = .ok (.iload_n 1, 1) ∧ decode cX11_crosses 23 = .ok (.iload_n 2, 1) ∧ decode cX11_crosses 24 = .ok (.if_icmp .eq 11, 3) ∧ decode cX11_crosses 27 = .ok (.aload_n 0, 1) ∧ decode cX11_crosses 28 = .ok (.iload_n 3, 1) ∧ decode cX11_crosses 29 = .ok (.invokevirtual 228, 3) ∧ decode cX11_crosses 32 = .ok (.ifCond .ne 9, 3) ∧ decode cX11_crosses 35 = .ok (.aload_n 0, 1) ∧ decode cX11_crosses 36 = .ok (.iconst 1, 1) ∧ decode cX11_crosses 37 = .ok (.invokevirtual 132, 3) := by decide +kernel
theorem e_X11_crosses_2 : decode cX11_crosses 40 = .ok (.ireturn, 1) ∧ decode cX11_crosses 41 = .ok (.aload_n 0, 1) ∧ decode cX11_crosses 42 = .ok (.getfield 64, 3) ∧ decode cX11_crosses 45 = .ok (.aload_n 0, 1) ∧ decode cX11_crosses 46 = .ok (.getfield 43, 3) ∧ decode cX11_crosses 49 = .ok (.iload_n 3, 1) ∧ decode cX11_crosses 50 = .ok (.invokevirtual 308, 3) ∧ decode cX11_crosses 53 = .ok (.aload_n 0, 1) ∧ decode cX11_crosses 54 = .ok (.aload_n 0, 1) ∧ decode cX11_crosses 55 = .ok (.getfield 64, 3) := by decide +kernel
theorem e_X11_crosses_3 : decode cX11_crosses 58 = .ok (.iload_n 1, 1) ∧ decode cX11_crosses 59 = .ok (.iload_n 2, 1) ∧ decode cX11_crosses 60 = .ok (.invokevirtual 340, 3) ∧ decode cX11_crosses 63 = .ok (.ifCond .eq 7, 3) ∧ decode cX11_crosses 66 = .ok (.iconst 1, 1) ∧ decode cX11_crosses 67 = .ok (.goto 4, 3) ∧ decode cX11_crosses 70 = .ok (.iconst 0, 1) ∧ decode cX11_crosses 71 = .ok (.invokevirtual 176, 3) ∧ decode cX11_crosses 74 = .ok (.ireturn, 1) := by decide +kernel
theorem S_X11_crosses {G : Kg} {σ : Kmem} {Q : Int → Kmem → Prop} {l1 l2 l3 : Int}  (h : Run G WX M_X0_hasKite 0 0 0 [vA G 5, vI l1] σ (fun r1 s2 => (rI r1) ∧ ((r1 = 0 → Run G WX M_X11_deny 0 0 0 [vA G 0, vI 1] s2 (fun r4 s5 => Q r4 s5)) ∧ (r1 ≠ 0 → Run G WX M_X0_hasKite 0 0 0 [vA G 5, vI l2] s2 (fun r6 s7 => (rI r6) ∧ ((r6 = 0 → Run G WX M_X11_deny 0 0 0 [vA G 0, vI 1] s7 (fun r9 s10 => Q r9 s10)) ∧ (r6 ≠ 0 → (rI l1) ∧ (rI l2) ∧ ((l1 = l2 → Run G WX M_X11_deny 0 0 0 [vA G 0, vI 1] s7 (fun r13 s14 => Q r13 s14)) ∧ (l1 ≠ l2 → Run G WX M_X11_isHourOfDay 0 0 0 [vA G 0, vI l3] s7 (fun r15 s16 => (rI r15) ∧ ((r15 ≠ 0 → Run G WX M_X8_look 3 0 0 [vA G 58, vA G 5, vI l3] s16 (fun r18 s19 => Run G WX M_X8_doCross 0 0 0 [vA G 58, vI l1, vI l2] s19 (fun r20 s21 => (rI r20) ∧ ((r20 = 0 → Run G WX M_X11_give 0 0 0 [vA G 0, vI 0] s21 (fun r23 s24 => Q r23 s24)) ∧ (r20 ≠ 0 → Run G WX M_X11_give 0 0 0 [vA G 0, vI 1] s21 (fun r25 s26 => Q r25 s26)))))) ∧ (r15 = 0 → Run G WX M_X11_deny 0 0 0 [vA G 0, vI 1] s16 (fun r27 s28 => Q r27 s28))))))))))))) : Run G WX M_X11_crosses 4 0 0 [vA G 0, vI l1, vI l2, vI l3] σ Q := by
  refine Run.of (by decide +kernel) (by show (4 : Nat) ≤ 4; decide) ?_
  show Ex G WX M_X11_crosses 4 0 0 0 [(0, vA G 0), (1, vI l1), (2, vI l2), (3, vI l3)] [] σ Q
  refine R_aload_n e_X11_crosses_0.1 0 rfl ?_
  refine R_getA 11 7 5 e_X11_crosses_0.2.1 f_X11_43 kx_0 (fun _ _ => rfl) rx_0_7 (by decide) ?_
  refine R_iload_n e_X11_crosses_0.2.2.1 1 rfl ?_
  refine R_callV (mc := 0) (ms := 0) (mc' := 0) (ms' := 0) (M' := M_X0_hasKite) (d' := 0) (as := [vI l1]) (st := []) 0 1 e_X11_crosses_0.2.2.2.1 (kCVof m_X0_hasKite l_X11_238) rfl (by decide) (kC_self isC_5) (by decide) (by decide) rfl rfl (by show (0 : Nat) ≤ 8; decide) ?_
  refine Run.mono h (fun r1 s2 h => ?_)
  refine R_eqs (st2 := [vI r1]) rfl rfl ?_
  obtain ⟨q3, h⟩ := h
  refine R_if_eq 35 e_X11_crosses_0.2.2.2.2.1 (by decide) q3  (fun q => ?_) (fun q => ?_)
  · replace h := h.1 q
    refine R_aload_n e_X11_crosses_1.2.2.2.2.2.2.2.1 0 rfl ?_
    refine R_iconst e_X11_crosses_1.2.2.2.2.2.2.2.2.1 ?_
    refine R_callV (mc := 0) (ms := 0) (mc' := 0) (ms' := 0) (M' := M_X11_deny) (d' := 0) (as := [vI 1]) (st := []) 11 1 e_X11_crosses_1.2.2.2.2.2.2.2.2.2 (kCVof m_X11_deny l_X11_132) rfl (by decide) kx_0 (by decide) (by decide) rfl rfl (by show (0 : Nat) ≤ 8; decide) ?_
    refine Run.mono h (fun r4 s5 h => ?_)
    refine R_eqs (st2 := [vI r4]) rfl rfl ?_
    exact R_ireturn e_X11_crosses_2.1 rfl h
  · replace h := h.2 q
    refine R_aload_n e_X11_crosses_0.2.2.2.2.2.1 0 rfl ?_
    refine R_getA 11 7 5 e_X11_crosses_0.2.2.2.2.2.2.1 f_X11_43 kx_0 (fun _ _ => rfl) rx_0_7 (by decide) ?_
    refine R_iload_n e_X11_crosses_0.2.2.2.2.2.2.2.1 2 rfl ?_
    refine R_callV (mc := 0) (ms := 0) (mc' := 0) (ms' := 0) (M' := M_X0_hasKite) (d' := 0) (as := [vI l2]) (st := []) 0 1 e_X11_crosses_0.2.2.2.2.2.2.2.2.1 (kCVof m_X0_hasKite l_X11_238) rfl (by decide) (kC_self isC_5) (by decide) (by decide) rfl rfl (by show (0 : Nat) ≤ 8; decide) ?_
    refine Run.mono h (fun r6 s7 h => ?_)
    refine R_eqs (st2 := [vI r6]) rfl rfl ?_
    obtain ⟨q8, h⟩ := h
    refine R_if_eq 35 e_X11_crosses_0.2.2.2.2.2.2.2.2.2 (by decide) q8  (fun q => ?_) (fun q => ?_)
    · replace h := h.1 q
      refine R_aload_n e_X11_crosses_1.2.2.2.2.2.2.2.1 0 rfl ?_
      refine R_iconst e_X11_crosses_1.2.2.2.2.2.2.2.2.1 ?_
      refine R_callV (mc := 0) (ms := 0) (mc' := 0) (ms' := 0) (M' := M_X11_deny) (d' := 0) (as := [vI 1]) (st := []) 11 1 e_X11_crosses_1.2.2.2.2.2.2.2.2.2 (kCVof m_X11_deny l_X11_132) rfl (by decide) kx_0 (by decide) (by decide) rfl rfl (by show (0 : Nat) ≤ 8; decide) ?_
      refine Run.mono h (fun r9 s10 h => ?_)
      refine R_eqs (st2 := [vI r9]) rfl rfl ?_
      exact R_ireturn e_X11_crosses_2.1 rfl h
    · replace h := h.2 q
      refine R_iload_n e_X11_crosses_1.1 1 rfl ?_
      refine R_iload_n e_X11_crosses_1.2.1 2 rfl ?_
      obtain ⟨q11, h⟩ := h
      obtain ⟨q12, h⟩ := h
      refine R_icmp_eq 35 e_X11_crosses_1.2.2.1 (by decide) q11 q12 (fun q => ?_) (fun q => ?_)
      · replace h := h.1 q
        refine R_aload_n e_X11_crosses_1.2.2.2.2.2.2.2.1 0 rfl ?_
        refine R_iconst e_X11_crosses_1.2.2.2.2.2.2.2.2.1 ?_
        refine R_callV (mc := 0) (ms := 0) (mc' := 0) (ms' := 0) (M' := M_X11_deny) (d' := 0) (as := [vI 1]) (st := []) 11 1 e_X11_crosses_1.2.2.2.2.2.2.2.2.2 (kCVof m_X11_deny l_X11_132) rfl (by decide) kx_0 (by decide) (by decide) rfl rfl (by show (0 : Nat) ≤ 8; decide) ?_
        refine Run.mono h (fun r13 s14 h => ?_)
        refine R_eqs (st2 := [vI r13]) rfl rfl ?_
        exact R_ireturn e_X11_crosses_2.1 rfl h
      · replace h := h.2 q
        refine R_aload_n e_X11_crosses_1.2.2.2.1 0 rfl ?_
        refine R_iload_n e_X11_crosses_1.2.2.2.2.1 3 rfl ?_
        refine R_callV (mc := 0) (ms := 0) (mc' := 0) (ms' := 0) (M' := M_X11_isHourOfDay) (d' := 0) (as := [vI l3]) (st := []) 11 1 e_X11_crosses_1.2.2.2.2.2.1 (kCVof m_X11_isHourOfDay l_X11_228) rfl (by decide) kx_0 (by decide) (by decide) rfl rfl (by show (0 : Nat) ≤ 8; decide) ?_
        refine Run.mono h (fun r15 s16 h => ?_)
        refine R_eqs (st2 := [vI r15]) rfl rfl ?_
        obtain ⟨q17, h⟩ := h
        refine R_if_ne 41 e_X11_crosses_1.2.2.2.2.2.2.1 (by decide) q17  (fun q => ?_) (fun q => ?_)
        · replace h := h.1 q
          refine R_aload_n e_X11_crosses_2.2.1 0 rfl ?_
          refine R_getA 11 10 58 e_X11_crosses_2.2.2.1 f_X11_64 kx_0 (fun _ _ => rfl) rx_0_10 (by decide) ?_
          refine R_aload_n e_X11_crosses_2.2.2.2.1 0 rfl ?_
          refine R_getA 11 7 5 e_X11_crosses_2.2.2.2.2.1 f_X11_43 kx_0 (fun _ _ => rfl) rx_0_7 (by decide) ?_
          refine R_iload_n e_X11_crosses_2.2.2.2.2.2.1 3 rfl ?_
          refine R_callV (mc := 0) (ms := 0) (mc' := 0) (ms' := 0) (M' := M_X8_look) (d' := 3) (as := [vA G 5, vI l3]) (st := []) 8 2 e_X11_crosses_2.2.2.2.2.2.2.1 (kCVof m_X8_look l_X11_308) rfl (by decide) kx_58 (by decide) (by decide) rfl rfl (by show (0 : Nat) ≤ 8; decide) ?_
          refine Run.mono h (fun r18 s19 h => ?_)
          refine R_eqs (st2 := []) rfl rfl ?_
          refine R_aload_n e_X11_crosses_2.2.2.2.2.2.2.2.1 0 rfl ?_
          refine R_aload_n e_X11_crosses_2.2.2.2.2.2.2.2.2.1 0 rfl ?_
          refine R_getA 11 10 58 e_X11_crosses_2.2.2.2.2.2.2.2.2.2 f_X11_64 kx_0 (fun _ _ => rfl) rx_0_10 (by decide) ?_
          refine R_iload_n e_X11_crosses_3.1 1 rfl ?_
          refine R_iload_n e_X11_crosses_3.2.1 2 rfl ?_
          refine R_callV (mc := 0) (ms := 0) (mc' := 0) (ms' := 0) (M' := M_X8_doCross) (d' := 0) (as := [vI l1, vI l2]) (st := [vA G 0]) 8 2 e_X11_crosses_3.2.2.1 (kCVof m_X8_doCross l_X11_340) rfl (by decide) kx_58 (by decide) (by decide) rfl rfl (by show (1 : Nat) ≤ 8; decide) ?_
          refine Run.mono h (fun r20 s21 h => ?_)
          refine R_eqs (st2 := [vI r20, vA G 0]) rfl rfl ?_
          obtain ⟨q22, h⟩ := h
          refine R_if_eq 70 e_X11_crosses_3.2.2.2.1 (by decide) q22  (fun q => ?_) (fun q => ?_)
          · replace h := h.1 q
            refine R_iconst e_X11_crosses_3.2.2.2.2.2.2.1 ?_
            refine R_callV (mc := 0) (ms := 0) (mc' := 0) (ms' := 0) (M' := M_X11_give) (d' := 0) (as := [vI 0]) (st := []) 11 1 e_X11_crosses_3.2.2.2.2.2.2.2.1 (kCVof m_X11_give l_X11_176) rfl (by decide) kx_0 (by decide) (by decide) rfl rfl (by show (0 : Nat) ≤ 8; decide) ?_
            refine Run.mono h (fun r23 s24 h => ?_)
            refine R_eqs (st2 := [vI r23]) rfl rfl ?_
            exact R_ireturn e_X11_crosses_3.2.2.2.2.2.2.2.2 rfl h
          · replace h := h.2 q
            refine R_iconst e_X11_crosses_3.2.2.2.2.1 ?_
            refine R_goto 71 e_X11_crosses_3.2.2.2.2.2.1 (by decide) ?_
            refine R_callV (mc := 0) (ms := 0) (mc' := 0) (ms' := 0) (M' := M_X11_give) (d' := 0) (as := [vI 1]) (st := []) 11 1 e_X11_crosses_3.2.2.2.2.2.2.2.1 (kCVof m_X11_give l_X11_176) rfl (by decide) kx_0 (by decide) (by decide) rfl rfl (by show (0 : Nat) ≤ 8; decide) ?_
            refine Run.mono h (fun r25 s26 h => ?_)
            refine R_eqs (st2 := [vI r25]) rfl rfl ?_
            exact R_ireturn e_X11_crosses_3.2.2.2.2.2.2.2.2 rfl h
        · replace h := h.2 q
          refine R_aload_n e_X11_crosses_1.2.2.2.2.2.2.2.1 0 rfl ?_
          refine R_iconst e_X11_crosses_1.2.2.2.2.2.2.2.2.1 ?_
          refine R_callV (mc := 0) (ms := 0) (mc' := 0) (ms' := 0) (M' := M_X11_deny) (d' := 0) (as := [vI 1]) (st := []) 11 1 e_X11_crosses_1.2.2.2.2.2.2.2.2.2 (kCVof m_X11_deny l_X11_132) rfl (by decide) kx_0 (by decide) (by decide) rfl rfl (by show (0 : Nat) ≤ 8; decide) ?_
          refine Run.mono h (fun r27 s28 h => ?_)
          refine R_eqs (st2 := [vI r27]) rfl rfl ?_
          exact R_ireturn e_X11_crosses_2.1 rfl h
/-! KiteLand.doomed()I -/
theorem e_X11_doomed_0 : decode cX11_doomed 0 = .ok (.aload_n 0, 1) ∧ decode cX11_doomed 1 = .ok (.invokevirtual 215, 3) ∧ decode cX11_doomed 4 = .ok (.aload_n 0, 1) ∧ decode cX11_doomed 5 = .ok (.aload_n 0, 1) ∧ decode cX11_doomed 6 = .ok (.getfield 64, 3) ∧ decode cX11_doomed 9 = .ok (.invokevirtual 343, 3) ∧ decode cX11_doomed 12 = .ok (.invokevirtual 176, 3) ∧ decode cX11_doomed 15 = .ok (.ireturn, 1) := by decide +kernel
theorem S_X11_doomed {G : Kg} {σ : Kmem} {Q : Int → Kmem → Prop}  (h : Run G WX M_X11_lookNow 4 0 0 [vA G 0] σ (fun r1 s2 => Run G WX M_X8_crossedSet 1 0 0 [vA G 58] s2 (fun r3 s4 => Run G WX M_X11_give 0 0 0 [vA G 0, vI r3] s4 (fun r5 s6 => Q r5 s6)))) : Run G WX M_X11_doomed 5 0 0 [vA G 0] σ Q := by
  refine Run.of (by decide +kernel) (by show (1 : Nat) ≤ 1; decide) ?_
  show Ex G WX M_X11_doomed 5 0 0 0 [(0, vA G 0)] [] σ Q
  refine R_aload_n e_X11_doomed_0.1 0 rfl ?_
  refine R_callV (mc := 0) (ms := 0) (mc' := 0) (ms' := 0) (M' := M_X11_lookNow) (d' := 4) (as := []) (st := []) 11 0 e_X11_doomed_0.2.1 (kCVof m_X11_lookNow l_X11_215) rfl (by decide) kx_0 (by decide) (by decide) rfl rfl (by show (0 : Nat) ≤ 8; decide) ?_
  refine Run.mono h (fun r1 s2 h => ?_)
  refine R_eqs (st2 := []) rfl rfl ?_
  refine R_aload_n e_X11_doomed_0.2.2.1 0 rfl ?_
  refine R_aload_n e_X11_doomed_0.2.2.2.1 0 rfl ?_
  refine R_getA 11 10 58 e_X11_doomed_0.2.2.2.2.1 f_X11_64 kx_0 (fun _ _ => rfl) rx_0_10 (by decide) ?_
  refine R_callV (mc := 0) (ms := 0) (mc' := 0) (ms' := 0) (M' := M_X8_crossedSet) (d' := 1) (as := []) (st := [vA G 0]) 8 0 e_X11_doomed_0.2.2.2.2.2.1 (kCVof m_X8_crossedSet l_X11_343) rfl (by decide) kx_58 (by decide) (by decide) rfl rfl (by show (1 : Nat) ≤ 8; decide) ?_
  refine Run.mono h (fun r3 s4 h => ?_)
  refine R_eqs (st2 := [vI r3, vA G 0]) rfl rfl ?_
  refine R_callV (mc := 0) (ms := 0) (mc' := 0) (ms' := 0) (M' := M_X11_give) (d' := 0) (as := [vI r3]) (st := []) 11 1 e_X11_doomed_0.2.2.2.2.2.2.1 (kCVof m_X11_give l_X11_176) rfl (by decide) kx_0 (by decide) (by decide) rfl rfl (by show (0 : Nat) ≤ 8; decide) ?_
  refine Run.mono h (fun r5 s6 h => ?_)
  refine R_eqs (st2 := [vI r5]) rfl rfl ?_
  exact R_ireturn e_X11_doomed_0.2.2.2.2.2.2.2 rfl h
/-! KiteLand.lulls(I)I -/
theorem e_X11_lulls_0 : decode cX11_lulls 0 = .ok (.aload_n 0, 1) ∧ decode cX11_lulls 1 = .ok (.getfield 43, 3) ∧ decode cX11_lulls 4 = .ok (.iload_n 1, 1) ∧ decode cX11_lulls 5 = .ok (.invokevirtual 238, 3) ∧ decode cX11_lulls 8 = .ok (.ifCond .ne 9, 3) ∧ decode cX11_lulls 11 = .ok (.aload_n 0, 1) ∧ decode cX11_lulls 12 = .ok (.iconst 1, 1) ∧ decode cX11_lulls 13 = .ok (.invokevirtual 132, 3) ∧ decode cX11_lulls 16 = .ok (.ireturn, 1) ∧ decode cX11_lulls 17 = .ok (.iconst 0, 1) := by decide +kernel
theorem e_X11_lulls_1 : decode cX11_lulls 18 = .ok (.istore_n 2, 1) ∧ decode cX11_lulls 19 = .ok (.iconst 0, 1) ∧ decode cX11_lulls 20 = .ok (.istore_n 3, 1) ∧ decode cX11_lulls 21 = .ok (.iload_n 3, 1) ∧ decode cX11_lulls 22 = .ok (.bipush 12, 2) ∧ decode cX11_lulls 24 = .ok (.if_icmp .ge 39, 3) ∧ decode cX11_lulls 27 = .ok (.aload_n 0, 1) ∧ decode cX11_lulls 28 = .ok (.getfield 43, 3) ∧ decode cX11_lulls 31 = .ok (.getfield 235, 3) ∧ decode cX11_lulls 34 = .ok (.iload_n 3, 1) := by decide +kernel
theorem e_X11_lulls_2 : decode cX11_lulls 35 = .ok (.iaload, 1) ∧ decode cX11_lulls 36 = .ok (.aload_n 0, 1) ∧ decode cX11_lulls 37 = .ok (.getfield 43, 3) ∧ decode cX11_lulls 40 = .ok (.getfield 241, 3) ∧ decode cX11_lulls 43 = .ok (.iload_n 1, 1) ∧ decode cX11_lulls 44 = .ok (.aaload, 1) ∧ decode cX11_lulls 45 = .ok (.getfield 259, 3) ∧ decode cX11_lulls 48 = .ok (.if_icmp .ge 9, 3) ∧ decode cX11_lulls 51 = .ok (.iload_n 2, 1) ∧ decode cX11_lulls 52 = .ok (.iconst 1, 1) := by decide +kernel
theorem e_X11_lulls_3 : decode cX11_lulls 53 = .ok (.iload_n 3, 1) ∧ decode cX11_lulls 54 = .ok (.ishl, 1) ∧ decode cX11_lulls 55 = .ok (.ior, 1) ∧ decode cX11_lulls 56 = .ok (.istore_n 2, 1) ∧ decode cX11_lulls 57 = .ok (.iinc 3 1, 3) ∧ decode cX11_lulls 60 = .ok (.goto (-39), 3) ∧ decode cX11_lulls 63 = .ok (.aload_n 0, 1) ∧ decode cX11_lulls 64 = .ok (.iload_n 2, 1) ∧ decode cX11_lulls 65 = .ok (.invokevirtual 176, 3) ∧ decode cX11_lulls 68 = .ok (.ireturn, 1) := by decide +kernel
abbrev E_X11_lulls_21 (G : Kg) (l1 l2 l3 : Int) (σ : Kmem) (Q : Int → Kmem → Prop) : Prop := Ex G WX M_X11_lulls 1 0 0 21 [(0, vA G 0), (1, vI l1), (2, vI l2), (3, vI l3)] [] σ Q
theorem S_X11_lulls {G : Kg} {σ : Kmem} {Q : Int → Kmem → Prop} {l1 : Int}  (h : Run G WX M_X0_hasKite 0 0 0 [vA G 5, vI l1] σ (fun r1 s2 => (rI r1) ∧ ((r1 ≠ 0 → E_X11_lulls_21 G l1 0 0 s2 Q) ∧ (r1 = 0 → Run G WX M_X11_deny 0 0 0 [vA G 0, vI 1] s2 (fun r4 s5 => Q r4 s5))))) : Run G WX M_X11_lulls 1 0 0 [vA G 0, vI l1] σ Q := by
  refine Run.of (by decide +kernel) (by show (2 : Nat) ≤ 4; decide) ?_
  show Ex G WX M_X11_lulls 1 0 0 0 [(0, vA G 0), (1, vI l1)] [] σ Q
  refine R_aload_n e_X11_lulls_0.1 0 rfl ?_
  refine R_getA 11 7 5 e_X11_lulls_0.2.1 f_X11_43 kx_0 (fun _ _ => rfl) rx_0_7 (by decide) ?_
  refine R_iload_n e_X11_lulls_0.2.2.1 1 rfl ?_
  refine R_callV (mc := 0) (ms := 0) (mc' := 0) (ms' := 0) (M' := M_X0_hasKite) (d' := 0) (as := [vI l1]) (st := []) 0 1 e_X11_lulls_0.2.2.2.1 (kCVof m_X0_hasKite l_X11_238) rfl (by decide) (kC_self isC_5) (by decide) (by decide) rfl rfl (by show (0 : Nat) ≤ 8; decide) ?_
  refine Run.mono h (fun r1 s2 h => ?_)
  refine R_eqs (st2 := [vI r1]) rfl rfl ?_
  obtain ⟨q3, h⟩ := h
  refine R_if_ne 17 e_X11_lulls_0.2.2.2.2.1 (by decide) q3  (fun q => ?_) (fun q => ?_)
  · replace h := h.1 q
    refine R_iconst e_X11_lulls_0.2.2.2.2.2.2.2.2.2 ?_
    refine R_istore_n (ls2 := [(2, vI 0), (0, vA G 0), (1, vI l1)]) e_X11_lulls_1.1 (by decide) rfl ?_
    refine R_iconst e_X11_lulls_1.2.1 ?_
    refine R_istore_n (ls2 := [(3, vI 0), (2, vI 0), (0, vA G 0), (1, vI l1)]) e_X11_lulls_1.2.2.1 (by decide) rfl ?_
    refine R_ls (ls2 := [(0, vA G 0), (1, vI l1), (2, vI 0), (3, vI 0)]) [2, 3, 1, 0] rfl ?_
    exact h
  · replace h := h.2 q
    refine R_aload_n e_X11_lulls_0.2.2.2.2.2.1 0 rfl ?_
    refine R_iconst e_X11_lulls_0.2.2.2.2.2.2.1 ?_
    refine R_callV (mc := 0) (ms := 0) (mc' := 0) (ms' := 0) (M' := M_X11_deny) (d' := 0) (as := [vI 1]) (st := []) 11 1 e_X11_lulls_0.2.2.2.2.2.2.2.1 (kCVof m_X11_deny l_X11_132) rfl (by decide) kx_0 (by decide) (by decide) rfl rfl (by show (0 : Nat) ≤ 8; decide) ?_
    refine Run.mono h (fun r4 s5 h => ?_)
    refine R_eqs (st2 := [vI r4]) rfl rfl ?_
    exact R_ireturn e_X11_lulls_0.2.2.2.2.2.2.2.2.1 rfl h
theorem S_X11_lulls_21 {G : Kg} {σ : Kmem} {Q : Int → Kmem → Prop} {l1 l2 l3 : Int}  (h : (rI l3) ∧ ((12 ≤ l3 → Run G WX M_X11_give 0 0 0 [vA G 0, vI l2] σ (fun r7 s8 => Q r7 s8)) ∧ (l3 < 12 → (0 ≤ l3 ∧ l3 < 12) ∧ (0 ≤ l1 ∧ l1 < 6) ∧ (rI (σ (5 + 2) l3)) ∧ (rI (σ (5 + 6 + l1) 5)) ∧ ((σ (5 + 6 + l1) 5 ≤ σ (5 + 2) l3 → E_X11_lulls_21 G l1 l2 (l3 + 1) σ Q) ∧ (σ (5 + 2) l3 < σ (5 + 6 + l1) 5 → E_X11_lulls_21 G l1 (kor l2 (kshl 1 l3)) (l3 + 1) σ Q))))) : E_X11_lulls_21 G l1 l2 l3 σ Q := by
  refine R_iload_n e_X11_lulls_1.2.2.2.1 3 rfl ?_
  refine R_bipush e_X11_lulls_1.2.2.2.2.1 (by decide) ?_
  obtain ⟨q6, h⟩ := h
  refine R_icmp_ge 63 e_X11_lulls_1.2.2.2.2.2.1 (by decide) q6 (by decide) (fun q => ?_) (fun q => ?_)
  · replace h := h.1 q
    refine R_aload_n e_X11_lulls_3.2.2.2.2.2.2.1 0 rfl ?_
    refine R_iload_n e_X11_lulls_3.2.2.2.2.2.2.2.1 2 rfl ?_
    refine R_callV (mc := 0) (ms := 0) (mc' := 0) (ms' := 0) (M' := M_X11_give) (d' := 0) (as := [vI l2]) (st := []) 11 1 e_X11_lulls_3.2.2.2.2.2.2.2.2.1 (kCVof m_X11_give l_X11_176) rfl (by decide) kx_0 (by decide) (by decide) rfl rfl (by show (0 : Nat) ≤ 8; decide) ?_
    refine Run.mono h (fun r7 s8 h => ?_)
    refine R_eqs (st2 := [vI r7]) rfl rfl ?_
    exact R_ireturn e_X11_lulls_3.2.2.2.2.2.2.2.2.2 rfl h
  · replace h := h.2 q
    refine R_aload_n e_X11_lulls_1.2.2.2.2.2.2.1 0 rfl ?_
    refine R_getA 11 7 5 e_X11_lulls_1.2.2.2.2.2.2.2.1 f_X11_43 kx_0 (fun _ _ => rfl) rx_0_7 (by decide) ?_
    refine R_getA 0 9 (5 + 2) e_X11_lulls_1.2.2.2.2.2.2.2.2.1 f_X11_235 (kC_self isC_5) (fun _ _ => rfl) (kC_r9 isC_5) (kC_n2 isC_5) ?_
    refine R_iload_n e_X11_lulls_1.2.2.2.2.2.2.2.2.2 3 rfl ?_
    obtain ⟨q9, h⟩ := h
    refine R_iald 12 e_X11_lulls_2.1 (kC_forces isC_5) q9 ?_
    refine R_aload_n e_X11_lulls_2.2.1 0 rfl ?_
    refine R_getA 11 7 5 e_X11_lulls_2.2.2.1 f_X11_43 kx_0 (fun _ _ => rfl) rx_0_7 (by decide) ?_
    refine R_getA 0 10 (5 + 3) e_X11_lulls_2.2.2.2.1 f_X11_241 (kC_self isC_5) (fun _ _ => rfl) (kC_r10 isC_5) (kC_n3 isC_5) ?_
    refine R_iload_n e_X11_lulls_2.2.2.2.2.1 1 rfl ?_
    obtain ⟨q10, h⟩ := h
    refine R_aald 27 6 (5 + 6 + l1) e_X11_lulls_2.2.2.2.2.2.1 (by decide) (kC_kites isC_5) q10 (kC_kiteAt isC_5 q10) (kC_kiteN isC_5 q10) ?_
    refine R_getI 3 5 5 e_X11_lulls_2.2.2.2.2.2.2.1 f_X11_259 (kC_kite isC_5 q10) (fun _ _ => rfl) rfl ?_
    obtain ⟨q11, h⟩ := h
    obtain ⟨q12, h⟩ := h
    refine R_icmp_ge 57 e_X11_lulls_2.2.2.2.2.2.2.2.1 (by decide) q11 q12 (fun q => ?_) (fun q => ?_)
    · replace h := h.1 q
      refine R_iinc (ls2 := [(3, vI (l3 + 1)), (0, vA G 0), (1, vI l1), (2, vI l2)]) e_X11_lulls_3.2.2.2.2.1 3 rfl (by decide) rfl ?_
      refine R_goto 21 e_X11_lulls_3.2.2.2.2.2.1 (by decide) ?_
      refine R_ls (ls2 := [(0, vA G 0), (1, vI l1), (2, vI l2), (3, vI (l3 + 1))]) [1, 2, 3, 0] rfl ?_
      exact h
    · replace h := h.2 q
      refine R_iload_n e_X11_lulls_2.2.2.2.2.2.2.2.2.1 2 rfl ?_
      refine R_iconst e_X11_lulls_2.2.2.2.2.2.2.2.2.2 ?_
      refine R_iload_n e_X11_lulls_3.1 3 rfl ?_
      refine R_ishl e_X11_lulls_3.2.1 ?_
      refine R_ior e_X11_lulls_3.2.2.1 ?_
      refine R_istore_n (ls2 := [(2, vI (kor l2 (kshl 1 l3))), (0, vA G 0), (1, vI l1), (3, vI l3)]) e_X11_lulls_3.2.2.2.1 (by decide) rfl ?_
      refine R_iinc (ls2 := [(3, vI (l3 + 1)), (2, vI (kor l2 (kshl 1 l3))), (0, vA G 0), (1, vI l1)]) e_X11_lulls_3.2.2.2.2.1 3 rfl (by decide) rfl ?_
      refine R_goto 21 e_X11_lulls_3.2.2.2.2.2.1 (by decide) ?_
      refine R_ls (ls2 := [(0, vA G 0), (1, vI l1), (2, vI (kor l2 (kshl 1 l3))), (3, vI (l3 + 1))]) [2, 3, 1, 0] rfl ?_
      exact h
/-! KiteLand.busiest()I -/
theorem e_X11_busiest_0 : decode cX11_busiest 0 = .ok (.aload_n 0, 1) ∧ decode cX11_busiest 1 = .ok (.getfield 43, 3) ∧ decode cX11_busiest 4 = .ok (.invokevirtual 346, 3) ∧ decode cX11_busiest 7 = .ok (.ifCond .ne 10, 3) ∧ decode cX11_busiest 10 = .ok (.aload_n 0, 1) ∧ decode cX11_busiest 11 = .ok (.bipush 6, 2) ∧ decode cX11_busiest 13 = .ok (.invokevirtual 132, 3) ∧ decode cX11_busiest 16 = .ok (.ireturn, 1) ∧ decode cX11_busiest 17 = .ok (.iconst 0, 1) ∧ decode cX11_busiest 18 = .ok (.istore_n 1, 1) := by decide +kernel
theorem e_X11_busiest_1 : decode cX11_busiest 19 = .ok (.iconst (-1), 1) ∧ decode cX11_busiest 20 = .ok (.istore_n 2, 1) ∧ decode cX11_busiest 21 = .ok (.iconst 0, 1) ∧ decode cX11_busiest 22 = .ok (.istore_n 3, 1) ∧ decode cX11_busiest 23 = .ok (.iload_n 3, 1) ∧ decode cX11_busiest 24 = .ok (.bipush 12, 2) ∧ decode cX11_busiest 26 = .ok (.if_icmp .ge 41, 3) ∧ decode cX11_busiest 29 = .ok (.aload_n 0, 1) ∧ decode cX11_busiest 30 = .ok (.getfield 64, 3) ∧ decode cX11_busiest 33 = .ok (.aload_n 0, 1) := by decide +kernel
theorem e_X11_busiest_2 : decode cX11_busiest 34 = .ok (.getfield 43, 3) ∧ decode cX11_busiest 37 = .ok (.iload_n 3, 1) ∧ decode cX11_busiest 38 = .ok (.invokevirtual 308, 3) ∧ decode cX11_busiest 41 = .ok (.aload_n 0, 1) ∧ decode cX11_busiest 42 = .ok (.getfield 64, 3) ∧ decode cX11_busiest 45 = .ok (.invokevirtual 334, 3) ∧ decode cX11_busiest 48 = .ok (.istore 4, 2) ∧ decode cX11_busiest 50 = .ok (.iload 4, 2) ∧ decode cX11_busiest 52 = .ok (.iload_n 2, 1) ∧ decode cX11_busiest 53 = .ok (.if_icmp .le 8, 3) := by decide +kernel
theorem e_X11_busiest_3 : decode cX11_busiest 56 = .ok (.iload 4, 2) ∧ decode cX11_busiest 58 = .ok (.istore_n 2, 1) ∧ decode cX11_busiest 59 = .ok (.iload_n 3, 1) ∧ decode cX11_busiest 60 = .ok (.istore_n 1, 1) ∧ decode cX11_busiest 61 = .ok (.iinc 3 1, 3) ∧ decode cX11_busiest 64 = .ok (.goto (-41), 3) ∧ decode cX11_busiest 67 = .ok (.aload_n 0, 1) ∧ decode cX11_busiest 68 = .ok (.iload_n 1, 1) ∧ decode cX11_busiest 69 = .ok (.invokevirtual 176, 3) ∧ decode cX11_busiest 72 = .ok (.ireturn, 1) := by decide +kernel
abbrev E_X11_busiest_23 (G : Kg) (l1 l2 l3 : Int) (σ : Kmem) (Q : Int → Kmem → Prop) : Prop := Ex G WX M_X11_busiest 4 0 0 23 [(0, vA G 0), (1, vI l1), (2, vI l2), (3, vI l3)] [] σ Q
theorem S_X11_busiest {G : Kg} {σ : Kmem} {Q : Int → Kmem → Prop}  (h : Run G WX M_X0_hasLand 0 0 0 [vA G 5] σ (fun r1 s2 => (rI r1) ∧ ((r1 ≠ 0 → E_X11_busiest_23 G 0 (-1) 0 s2 Q) ∧ (r1 = 0 → Run G WX M_X11_deny 0 0 0 [vA G 0, vI 6] s2 (fun r4 s5 => Q r4 s5))))) : Run G WX M_X11_busiest 4 0 0 [vA G 0] σ Q := by
  refine Run.of (by decide +kernel) (by show (1 : Nat) ≤ 5; decide) ?_
  show Ex G WX M_X11_busiest 4 0 0 0 [(0, vA G 0)] [] σ Q
  refine R_aload_n e_X11_busiest_0.1 0 rfl ?_
  refine R_getA 11 7 5 e_X11_busiest_0.2.1 f_X11_43 kx_0 (fun _ _ => rfl) rx_0_7 (by decide) ?_
  refine R_callV (mc := 0) (ms := 0) (mc' := 0) (ms' := 0) (M' := M_X0_hasLand) (d' := 0) (as := []) (st := []) 0 0 e_X11_busiest_0.2.2.1 (kCVof m_X0_hasLand l_X11_346) rfl (by decide) (kC_self isC_5) (by decide) (by decide) rfl rfl (by show (0 : Nat) ≤ 8; decide) ?_
  refine Run.mono h (fun r1 s2 h => ?_)
  refine R_eqs (st2 := [vI r1]) rfl rfl ?_
  obtain ⟨q3, h⟩ := h
  refine R_if_ne 17 e_X11_busiest_0.2.2.2.1 (by decide) q3  (fun q => ?_) (fun q => ?_)
  · replace h := h.1 q
    refine R_iconst e_X11_busiest_0.2.2.2.2.2.2.2.2.1 ?_
    refine R_istore_n (ls2 := [(1, vI 0), (0, vA G 0)]) e_X11_busiest_0.2.2.2.2.2.2.2.2.2 (by decide) rfl ?_
    refine R_iconst e_X11_busiest_1.1 ?_
    refine R_istore_n (ls2 := [(2, vI (-1)), (1, vI 0), (0, vA G 0)]) e_X11_busiest_1.2.1 (by decide) rfl ?_
    refine R_iconst e_X11_busiest_1.2.2.1 ?_
    refine R_istore_n (ls2 := [(3, vI 0), (2, vI (-1)), (1, vI 0), (0, vA G 0)]) e_X11_busiest_1.2.2.2.1 (by decide) rfl ?_
    refine R_ls (ls2 := [(0, vA G 0), (1, vI 0), (2, vI (-1)), (3, vI 0)]) [3, 2, 1, 0] rfl ?_
    exact h
  · replace h := h.2 q
    refine R_aload_n e_X11_busiest_0.2.2.2.2.1 0 rfl ?_
    refine R_bipush e_X11_busiest_0.2.2.2.2.2.1 (by decide) ?_
    refine R_callV (mc := 0) (ms := 0) (mc' := 0) (ms' := 0) (M' := M_X11_deny) (d' := 0) (as := [vI 6]) (st := []) 11 1 e_X11_busiest_0.2.2.2.2.2.2.1 (kCVof m_X11_deny l_X11_132) rfl (by decide) kx_0 (by decide) (by decide) rfl rfl (by show (0 : Nat) ≤ 8; decide) ?_
    refine Run.mono h (fun r4 s5 h => ?_)
    refine R_eqs (st2 := [vI r4]) rfl rfl ?_
    exact R_ireturn e_X11_busiest_0.2.2.2.2.2.2.2.1 rfl h
theorem S_X11_busiest_23 {G : Kg} {σ : Kmem} {Q : Int → Kmem → Prop} {l1 l2 l3 : Int}  (h : (rI l3) ∧ ((12 ≤ l3 → Run G WX M_X11_give 0 0 0 [vA G 0, vI l1] σ (fun r7 s8 => Q r7 s8)) ∧ (l3 < 12 → Run G WX M_X8_look 3 0 0 [vA G 58, vA G 5, vI l3] σ (fun r9 s10 => Run G WX M_X8_ownedFields 0 0 0 [vA G 58] s10 (fun r11 s12 => (rI r11) ∧ (rI l2) ∧ ((r11 ≤ l2 → E_X11_busiest_23 G l1 l2 (l3 + 1) s12 Q) ∧ (l2 < r11 → E_X11_busiest_23 G l3 r11 (l3 + 1) s12 Q))))))) : E_X11_busiest_23 G l1 l2 l3 σ Q := by
  refine R_iload_n e_X11_busiest_1.2.2.2.2.1 3 rfl ?_
  refine R_bipush e_X11_busiest_1.2.2.2.2.2.1 (by decide) ?_
  obtain ⟨q6, h⟩ := h
  refine R_icmp_ge 67 e_X11_busiest_1.2.2.2.2.2.2.1 (by decide) q6 (by decide) (fun q => ?_) (fun q => ?_)
  · replace h := h.1 q
    refine R_aload_n e_X11_busiest_3.2.2.2.2.2.2.1 0 rfl ?_
    refine R_iload_n e_X11_busiest_3.2.2.2.2.2.2.2.1 1 rfl ?_
    refine R_callV (mc := 0) (ms := 0) (mc' := 0) (ms' := 0) (M' := M_X11_give) (d' := 0) (as := [vI l1]) (st := []) 11 1 e_X11_busiest_3.2.2.2.2.2.2.2.2.1 (kCVof m_X11_give l_X11_176) rfl (by decide) kx_0 (by decide) (by decide) rfl rfl (by show (0 : Nat) ≤ 8; decide) ?_
    refine Run.mono h (fun r7 s8 h => ?_)
    refine R_eqs (st2 := [vI r7]) rfl rfl ?_
    exact R_ireturn e_X11_busiest_3.2.2.2.2.2.2.2.2.2 rfl h
  · replace h := h.2 q
    refine R_aload_n e_X11_busiest_1.2.2.2.2.2.2.2.1 0 rfl ?_
    refine R_getA 11 10 58 e_X11_busiest_1.2.2.2.2.2.2.2.2.1 f_X11_64 kx_0 (fun _ _ => rfl) rx_0_10 (by decide) ?_
    refine R_aload_n e_X11_busiest_1.2.2.2.2.2.2.2.2.2 0 rfl ?_
    refine R_getA 11 7 5 e_X11_busiest_2.1 f_X11_43 kx_0 (fun _ _ => rfl) rx_0_7 (by decide) ?_
    refine R_iload_n e_X11_busiest_2.2.1 3 rfl ?_
    refine R_callV (mc := 0) (ms := 0) (mc' := 0) (ms' := 0) (M' := M_X8_look) (d' := 3) (as := [vA G 5, vI l3]) (st := []) 8 2 e_X11_busiest_2.2.2.1 (kCVof m_X8_look l_X11_308) rfl (by decide) kx_58 (by decide) (by decide) rfl rfl (by show (0 : Nat) ≤ 8; decide) ?_
    refine Run.mono h (fun r9 s10 h => ?_)
    refine R_eqs (st2 := []) rfl rfl ?_
    refine R_aload_n e_X11_busiest_2.2.2.2.1 0 rfl ?_
    refine R_getA 11 10 58 e_X11_busiest_2.2.2.2.2.1 f_X11_64 kx_0 (fun _ _ => rfl) rx_0_10 (by decide) ?_
    refine R_callV (mc := 0) (ms := 0) (mc' := 0) (ms' := 0) (M' := M_X8_ownedFields) (d' := 0) (as := []) (st := []) 8 0 e_X11_busiest_2.2.2.2.2.2.1 (kCVof m_X8_ownedFields l_X11_334) rfl (by decide) kx_58 (by decide) (by decide) rfl rfl (by show (0 : Nat) ≤ 8; decide) ?_
    refine Run.mono h (fun r11 s12 h => ?_)
    refine R_eqs (st2 := [vI r11]) rfl rfl ?_
    refine R_istore (ls2 := [(4, vI r11), (0, vA G 0), (1, vI l1), (2, vI l2), (3, vI l3)]) e_X11_busiest_2.2.2.2.2.2.2.1 (by decide) rfl ?_
    refine R_iload e_X11_busiest_2.2.2.2.2.2.2.2.1 0 rfl ?_
    refine R_iload_n e_X11_busiest_2.2.2.2.2.2.2.2.2.1 3 rfl ?_
    obtain ⟨q13, h⟩ := h
    obtain ⟨q14, h⟩ := h
    refine R_icmp_le 61 e_X11_busiest_2.2.2.2.2.2.2.2.2.2 (by decide) q13 q14 (fun q => ?_) (fun q => ?_)
    · replace h := h.1 q
      refine R_iinc (ls2 := [(3, vI (l3 + 1)), (4, vI r11), (0, vA G 0), (1, vI l1), (2, vI l2)]) e_X11_busiest_3.2.2.2.2.1 4 rfl (by decide) rfl ?_
      refine R_goto 23 e_X11_busiest_3.2.2.2.2.2.1 (by decide) ?_
      refine R_ls (ls2 := [(0, vA G 0), (1, vI l1), (2, vI l2), (3, vI (l3 + 1))]) [2, 3, 4, 0] rfl ?_
      exact h
    · replace h := h.2 q
      refine R_iload e_X11_busiest_3.1 0 rfl ?_
      refine R_istore_n (ls2 := [(2, vI r11), (4, vI r11), (0, vA G 0), (1, vI l1), (3, vI l3)]) e_X11_busiest_3.2.1 (by decide) rfl ?_
      refine R_iload_n e_X11_busiest_3.2.2.1 4 rfl ?_
      refine R_istore_n (ls2 := [(1, vI l3), (2, vI r11), (4, vI r11), (0, vA G 0), (3, vI l3)]) e_X11_busiest_3.2.2.2.1 (by decide) rfl ?_
      refine R_iinc (ls2 := [(3, vI (l3 + 1)), (1, vI l3), (2, vI r11), (4, vI r11), (0, vA G 0)]) e_X11_busiest_3.2.2.2.2.1 4 rfl (by decide) rfl ?_
      refine R_goto 23 e_X11_busiest_3.2.2.2.2.2.1 (by decide) ?_
      refine R_ls (ls2 := [(0, vA G 0), (1, vI l3), (2, vI r11), (3, vI (l3 + 1))]) [4, 1, 2, 0] rfl ?_
      exact h
/-! KiteLand.greatest()I -/
theorem e_X11_greatest_0 : decode cX11_greatest 0 = .ok (.aload_n 0, 1) ∧ decode cX11_greatest 1 = .ok (.invokevirtual 215, 3) ∧ decode cX11_greatest 4 = .ok (.iconst (-1), 1) ∧ decode cX11_greatest 5 = .ok (.istore_n 1, 1) ∧ decode cX11_greatest 6 = .ok (.iconst 0, 1) ∧ decode cX11_greatest 7 = .ok (.istore_n 2, 1) ∧ decode cX11_greatest 8 = .ok (.iconst 0, 1) ∧ decode cX11_greatest 9 = .ok (.istore_n 3, 1) ∧ decode cX11_greatest 10 = .ok (.iload_n 3, 1) ∧ decode cX11_greatest 11 = .ok (.aload_n 0, 1) := by decide +kernel
theorem e_X11_greatest_1 : decode cX11_greatest 12 = .ok (.getfield 43, 3) ∧ decode cX11_greatest 15 = .ok (.getfield 173, 3) ∧ decode cX11_greatest 18 = .ok (.if_icmp .ge 30, 3) ∧ decode cX11_greatest 21 = .ok (.aload_n 0, 1) ∧ decode cX11_greatest 22 = .ok (.getfield 64, 3) ∧ decode cX11_greatest 25 = .ok (.iload_n 3, 1) ∧ decode cX11_greatest 26 = .ok (.invokevirtual 331, 3) ∧ decode cX11_greatest 29 = .ok (.istore 4, 2) ∧ decode cX11_greatest 31 = .ok (.iload 4, 2) ∧ decode cX11_greatest 33 = .ok (.iload_n 2, 1) := by decide +kernel
theorem e_X11_greatest_2 : decode cX11_greatest 34 = .ok (.if_icmp .le 8, 3) ∧ decode cX11_greatest 37 = .ok (.iload 4, 2) ∧ decode cX11_greatest 39 = .ok (.istore_n 2, 1) ∧ decode cX11_greatest 40 = .ok (.iload_n 3, 1) ∧ decode cX11_greatest 41 = .ok (.istore_n 1, 1) ∧ decode cX11_greatest 42 = .ok (.iinc 3 1, 3) ∧ decode cX11_greatest 45 = .ok (.goto (-35), 3) ∧ decode cX11_greatest 48 = .ok (.iload_n 1, 1) ∧ decode cX11_greatest 49 = .ok (.iconst (-1), 1) ∧ decode cX11_greatest 50 = .ok (.if_icmp .ne 12, 3) := by decide +kernel
theorem e_X11_greatest_3 : decode cX11_greatest 53 = .ok (.aload_n 0, 1) ∧ decode cX11_greatest 54 = .ok (.bipush 6, 2) ∧ decode cX11_greatest 56 = .ok (.invokevirtual 132, 3) ∧ decode cX11_greatest 59 = .ok (.goto 8, 3) ∧ decode cX11_greatest 62 = .ok (.aload_n 0, 1) ∧ decode cX11_greatest 63 = .ok (.iload_n 1, 1) ∧ decode cX11_greatest 64 = .ok (.invokevirtual 176, 3) ∧ decode cX11_greatest 67 = .ok (.ireturn, 1) := by decide +kernel
abbrev E_X11_greatest_10 (G : Kg) (l1 l2 l3 : Int) (σ : Kmem) (Q : Int → Kmem → Prop) : Prop := Ex G WX M_X11_greatest 5 0 0 10 [(0, vA G 0), (1, vI l1), (2, vI l2), (3, vI l3)] [] σ Q
theorem S_X11_greatest {G : Kg} {σ : Kmem} {Q : Int → Kmem → Prop}  (h : Run G WX M_X11_lookNow 4 0 0 [vA G 0] σ (fun r1 s2 => E_X11_greatest_10 G (-1) 0 0 s2 Q)) : Run G WX M_X11_greatest 5 0 0 [vA G 0] σ Q := by
  refine Run.of (by decide +kernel) (by show (1 : Nat) ≤ 5; decide) ?_
  show Ex G WX M_X11_greatest 5 0 0 0 [(0, vA G 0)] [] σ Q
  refine R_aload_n e_X11_greatest_0.1 0 rfl ?_
  refine R_callV (mc := 0) (ms := 0) (mc' := 0) (ms' := 0) (M' := M_X11_lookNow) (d' := 4) (as := []) (st := []) 11 0 e_X11_greatest_0.2.1 (kCVof m_X11_lookNow l_X11_215) rfl (by decide) kx_0 (by decide) (by decide) rfl rfl (by show (0 : Nat) ≤ 8; decide) ?_
  refine Run.mono h (fun r1 s2 h => ?_)
  refine R_eqs (st2 := []) rfl rfl ?_
  refine R_iconst e_X11_greatest_0.2.2.1 ?_
  refine R_istore_n (ls2 := [(1, vI (-1)), (0, vA G 0)]) e_X11_greatest_0.2.2.2.1 (by decide) rfl ?_
  refine R_iconst e_X11_greatest_0.2.2.2.2.1 ?_
  refine R_istore_n (ls2 := [(2, vI 0), (1, vI (-1)), (0, vA G 0)]) e_X11_greatest_0.2.2.2.2.2.1 (by decide) rfl ?_
  refine R_iconst e_X11_greatest_0.2.2.2.2.2.2.1 ?_
  refine R_istore_n (ls2 := [(3, vI 0), (2, vI 0), (1, vI (-1)), (0, vA G 0)]) e_X11_greatest_0.2.2.2.2.2.2.2.1 (by decide) rfl ?_
  refine R_ls (ls2 := [(0, vA G 0), (1, vI (-1)), (2, vI 0), (3, vI 0)]) [3, 2, 1, 0] rfl ?_
  exact h
theorem S_X11_greatest_10 {G : Kg} {σ : Kmem} {Q : Int → Kmem → Prop} {l1 l2 l3 : Int}  (h : (rI l3) ∧ (rI (σ 5 5)) ∧ ((σ 5 5 ≤ l3 → (rI l1) ∧ ((l1 ≠ -1 → Run G WX M_X11_give 0 0 0 [vA G 0, vI l1] σ (fun r6 s7 => Q r6 s7)) ∧ (l1 = -1 → Run G WX M_X11_deny 0 0 0 [vA G 0, vI 6] σ (fun r8 s9 => Q r8 s9)))) ∧ (l3 < σ 5 5 → Run G WX M_X8_fieldsOf 0 0 0 [vA G 58, vI l3] σ (fun r10 s11 => (rI r10) ∧ (rI l2) ∧ ((r10 ≤ l2 → E_X11_greatest_10 G l1 l2 (l3 + 1) s11 Q) ∧ (l2 < r10 → E_X11_greatest_10 G l3 r10 (l3 + 1) s11 Q)))))) : E_X11_greatest_10 G l1 l2 l3 σ Q := by
  refine R_iload_n e_X11_greatest_0.2.2.2.2.2.2.2.2.1 3 rfl ?_
  refine R_aload_n e_X11_greatest_0.2.2.2.2.2.2.2.2.2 0 rfl ?_
  refine R_getA 11 7 5 e_X11_greatest_1.1 f_X11_43 kx_0 (fun _ _ => rfl) rx_0_7 (by decide) ?_
  refine R_getI 0 5 5 e_X11_greatest_1.2.1 f_X11_173 (kC_self isC_5) (fun _ _ => rfl) rfl ?_
  obtain ⟨q3, h⟩ := h
  obtain ⟨q4, h⟩ := h
  refine R_icmp_ge 48 e_X11_greatest_1.2.2.1 (by decide) q3 q4 (fun q => ?_) (fun q => ?_)
  · replace h := h.1 q
    refine R_iload_n e_X11_greatest_2.2.2.2.2.2.2.2.1 1 rfl ?_
    refine R_iconst e_X11_greatest_2.2.2.2.2.2.2.2.2.1 ?_
    obtain ⟨q5, h⟩ := h
    refine R_icmp_ne 62 e_X11_greatest_2.2.2.2.2.2.2.2.2.2 (by decide) q5 (by decide) (fun q => ?_) (fun q => ?_)
    · replace h := h.1 q
      refine R_aload_n e_X11_greatest_3.2.2.2.2.1 0 rfl ?_
      refine R_iload_n e_X11_greatest_3.2.2.2.2.2.1 1 rfl ?_
      refine R_callV (mc := 0) (ms := 0) (mc' := 0) (ms' := 0) (M' := M_X11_give) (d' := 0) (as := [vI l1]) (st := []) 11 1 e_X11_greatest_3.2.2.2.2.2.2.1 (kCVof m_X11_give l_X11_176) rfl (by decide) kx_0 (by decide) (by decide) rfl rfl (by show (0 : Nat) ≤ 8; decide) ?_
      refine Run.mono h (fun r6 s7 h => ?_)
      refine R_eqs (st2 := [vI r6]) rfl rfl ?_
      exact R_ireturn e_X11_greatest_3.2.2.2.2.2.2.2 rfl h
    · replace h := h.2 q
      refine R_aload_n e_X11_greatest_3.1 0 rfl ?_
      refine R_bipush e_X11_greatest_3.2.1 (by decide) ?_
      refine R_callV (mc := 0) (ms := 0) (mc' := 0) (ms' := 0) (M' := M_X11_deny) (d' := 0) (as := [vI 6]) (st := []) 11 1 e_X11_greatest_3.2.2.1 (kCVof m_X11_deny l_X11_132) rfl (by decide) kx_0 (by decide) (by decide) rfl rfl (by show (0 : Nat) ≤ 8; decide) ?_
      refine Run.mono h (fun r8 s9 h => ?_)
      refine R_eqs (st2 := [vI r8]) rfl rfl ?_
      refine R_goto 67 e_X11_greatest_3.2.2.2.1 (by decide) ?_
      exact R_ireturn e_X11_greatest_3.2.2.2.2.2.2.2 rfl h
  · replace h := h.2 q
    refine R_aload_n e_X11_greatest_1.2.2.2.1 0 rfl ?_
    refine R_getA 11 10 58 e_X11_greatest_1.2.2.2.2.1 f_X11_64 kx_0 (fun _ _ => rfl) rx_0_10 (by decide) ?_
    refine R_iload_n e_X11_greatest_1.2.2.2.2.2.1 3 rfl ?_
    refine R_callV (mc := 0) (ms := 0) (mc' := 0) (ms' := 0) (M' := M_X8_fieldsOf) (d' := 0) (as := [vI l3]) (st := []) 8 1 e_X11_greatest_1.2.2.2.2.2.2.1 (kCVof m_X8_fieldsOf l_X11_331) rfl (by decide) kx_58 (by decide) (by decide) rfl rfl (by show (0 : Nat) ≤ 8; decide) ?_
    refine Run.mono h (fun r10 s11 h => ?_)
    refine R_eqs (st2 := [vI r10]) rfl rfl ?_
    refine R_istore (ls2 := [(4, vI r10), (0, vA G 0), (1, vI l1), (2, vI l2), (3, vI l3)]) e_X11_greatest_1.2.2.2.2.2.2.2.1 (by decide) rfl ?_
    refine R_iload e_X11_greatest_1.2.2.2.2.2.2.2.2.1 0 rfl ?_
    refine R_iload_n e_X11_greatest_1.2.2.2.2.2.2.2.2.2 3 rfl ?_
    obtain ⟨q12, h⟩ := h
    obtain ⟨q13, h⟩ := h
    refine R_icmp_le 42 e_X11_greatest_2.1 (by decide) q12 q13 (fun q => ?_) (fun q => ?_)
    · replace h := h.1 q
      refine R_iinc (ls2 := [(3, vI (l3 + 1)), (4, vI r10), (0, vA G 0), (1, vI l1), (2, vI l2)]) e_X11_greatest_2.2.2.2.2.2.1 4 rfl (by decide) rfl ?_
      refine R_goto 10 e_X11_greatest_2.2.2.2.2.2.2.1 (by decide) ?_
      refine R_ls (ls2 := [(0, vA G 0), (1, vI l1), (2, vI l2), (3, vI (l3 + 1))]) [2, 3, 4, 0] rfl ?_
      exact h
    · replace h := h.2 q
      refine R_iload e_X11_greatest_2.2.1 0 rfl ?_
      refine R_istore_n (ls2 := [(2, vI r10), (4, vI r10), (0, vA G 0), (1, vI l1), (3, vI l3)]) e_X11_greatest_2.2.2.1 (by decide) rfl ?_
      refine R_iload_n e_X11_greatest_2.2.2.2.1 4 rfl ?_
      refine R_istore_n (ls2 := [(1, vI l3), (2, vI r10), (4, vI r10), (0, vA G 0), (3, vI l3)]) e_X11_greatest_2.2.2.2.2.1 (by decide) rfl ?_
      refine R_iinc (ls2 := [(3, vI (l3 + 1)), (1, vI l3), (2, vI r10), (4, vI r10), (0, vA G 0)]) e_X11_greatest_2.2.2.2.2.2.1 4 rfl (by decide) rfl ?_
      refine R_goto 10 e_X11_greatest_2.2.2.2.2.2.2.1 (by decide) ?_
      refine R_ls (ls2 := [(0, vA G 0), (1, vI l3), (2, vI r10), (3, vI (l3 + 1))]) [4, 1, 2, 0] rfl ?_
      exact h
/-! KiteLand.hour(I)I -/
theorem e_X11_hour_0 : decode cX11_hour 0 = .ok (.iload_n 1, 1) ∧ decode cX11_hour 1 = .ok (.iconst 1, 1) ∧ decode cX11_hour 2 = .ok (.if_icmp .lt 9, 3) ∧ decode cX11_hour 5 = .ok (.iload_n 1, 1) ∧ decode cX11_hour 6 = .ok (.bipush 99, 2) ∧ decode cX11_hour 8 = .ok (.if_icmp .le 9, 3) ∧ decode cX11_hour 11 = .ok (.aload_n 0, 1) ∧ decode cX11_hour 12 = .ok (.iconst 1, 1) ∧ decode cX11_hour 13 = .ok (.invokevirtual 132, 3) ∧ decode cX11_hour 16 = .ok (.ireturn, 1) := by decide +kernel
theorem e_X11_hour_1 : decode cX11_hour 17 = .ok (.aload_n 0, 1) ∧ decode cX11_hour 18 = .ok (.getfield 43, 3) ∧ decode cX11_hour 21 = .ok (.getfield 212, 3) ∧ decode cX11_hour 24 = .ok (.iload_n 1, 1) ∧ decode cX11_hour 25 = .ok (.iadd, 1) ∧ decode cX11_hour 26 = .ok (.sipush 9999, 3) ∧ decode cX11_hour 29 = .ok (.if_icmp .le 9, 3) ∧ decode cX11_hour 32 = .ok (.aload_n 0, 1) ∧ decode cX11_hour 33 = .ok (.iconst 4, 1) ∧ decode cX11_hour 34 = .ok (.invokevirtual 132, 3) := by decide +kernel
theorem e_X11_hour_2 : decode cX11_hour 37 = .ok (.ireturn, 1) ∧ decode cX11_hour 38 = .ok (.aload_n 0, 1) ∧ decode cX11_hour 39 = .ok (.aload_n 0, 1) ∧ decode cX11_hour 40 = .ok (.getfield 43, 3) ∧ decode cX11_hour 43 = .ok (.aload_n 0, 1) ∧ decode cX11_hour 44 = .ok (.getfield 64, 3) ∧ decode cX11_hour 47 = .ok (.iload_n 1, 1) ∧ decode cX11_hour 48 = .ok (.invokevirtual 349, 3) ∧ decode cX11_hour 51 = .ok (.invokevirtual 176, 3) ∧ decode cX11_hour 54 = .ok (.ireturn, 1) := by decide +kernel
theorem S_X11_hour {G : Kg} {σ : Kmem} {Q : Int → Kmem → Prop} {l1 : Int}  (h : (rI l1) ∧ ((l1 < 1 → Run G WX M_X11_deny 0 0 0 [vA G 0, vI 1] σ (fun r2 s3 => Q r2 s3)) ∧ (1 ≤ l1 → ((l1 ≤ 99 → (rI ((σ 5 4) + l1)) ∧ (((σ 5 4) + l1 ≤ 9999 → Run G WX M_X0_goBy 4 0 0 [vA G 5, vA G 58, vI l1] σ (fun r5 s6 => Run G WX M_X11_give 0 0 0 [vA G 0, vI r5] s6 (fun r7 s8 => Q r7 s8))) ∧ (9999 < (σ 5 4) + l1 → Run G WX M_X11_deny 0 0 0 [vA G 0, vI 4] σ (fun r9 s10 => Q r9 s10)))) ∧ (99 < l1 → Run G WX M_X11_deny 0 0 0 [vA G 0, vI 1] σ (fun r11 s12 => Q r11 s12)))))) : Run G WX M_X11_hour 5 0 0 [vA G 0, vI l1] σ Q := by
  refine Run.of (by decide +kernel) (by show (2 : Nat) ≤ 2; decide) ?_
  show Ex G WX M_X11_hour 5 0 0 0 [(0, vA G 0), (1, vI l1)] [] σ Q
  refine R_iload_n e_X11_hour_0.1 1 rfl ?_
  refine R_iconst e_X11_hour_0.2.1 ?_
  obtain ⟨q1, h⟩ := h
  refine R_icmp_lt 11 e_X11_hour_0.2.2.1 (by decide) q1 (by decide) (fun q => ?_) (fun q => ?_)
  · replace h := h.1 q
    refine R_aload_n e_X11_hour_0.2.2.2.2.2.2.1 0 rfl ?_
    refine R_iconst e_X11_hour_0.2.2.2.2.2.2.2.1 ?_
    refine R_callV (mc := 0) (ms := 0) (mc' := 0) (ms' := 0) (M' := M_X11_deny) (d' := 0) (as := [vI 1]) (st := []) 11 1 e_X11_hour_0.2.2.2.2.2.2.2.2.1 (kCVof m_X11_deny l_X11_132) rfl (by decide) kx_0 (by decide) (by decide) rfl rfl (by show (0 : Nat) ≤ 8; decide) ?_
    refine Run.mono h (fun r2 s3 h => ?_)
    refine R_eqs (st2 := [vI r2]) rfl rfl ?_
    exact R_ireturn e_X11_hour_0.2.2.2.2.2.2.2.2.2 rfl h
  · replace h := h.2 q
    refine R_iload_n e_X11_hour_0.2.2.2.1 1 rfl ?_
    refine R_bipush e_X11_hour_0.2.2.2.2.1 (by decide) ?_
    refine R_icmp_le 17 e_X11_hour_0.2.2.2.2.2.1 (by decide) q1 (by decide) (fun q => ?_) (fun q => ?_)
    · replace h := h.1 q
      refine R_aload_n e_X11_hour_1.1 0 rfl ?_
      refine R_getA 11 7 5 e_X11_hour_1.2.1 f_X11_43 kx_0 (fun _ _ => rfl) rx_0_7 (by decide) ?_
      refine R_getI 0 4 4 e_X11_hour_1.2.2.1 f_X11_212 (kC_self isC_5) (fun _ _ => rfl) rfl ?_
      refine R_iload_n e_X11_hour_1.2.2.2.1 1 rfl ?_
      refine R_iadd e_X11_hour_1.2.2.2.2.1 ?_
      refine R_sipush e_X11_hour_1.2.2.2.2.2.1 (by decide) ?_
      obtain ⟨q4, h⟩ := h
      refine R_icmp_le 38 e_X11_hour_1.2.2.2.2.2.2.1 (by decide) q4 (by decide) (fun q => ?_) (fun q => ?_)
      · replace h := h.1 q
        refine R_aload_n e_X11_hour_2.2.1 0 rfl ?_
        refine R_aload_n e_X11_hour_2.2.2.1 0 rfl ?_
        refine R_getA 11 7 5 e_X11_hour_2.2.2.2.1 f_X11_43 kx_0 (fun _ _ => rfl) rx_0_7 (by decide) ?_
        refine R_aload_n e_X11_hour_2.2.2.2.2.1 0 rfl ?_
        refine R_getA 11 10 58 e_X11_hour_2.2.2.2.2.2.1 f_X11_64 kx_0 (fun _ _ => rfl) rx_0_10 (by decide) ?_
        refine R_iload_n e_X11_hour_2.2.2.2.2.2.2.1 1 rfl ?_
        refine R_callV (mc := 0) (ms := 0) (mc' := 0) (ms' := 0) (M' := M_X0_goBy) (d' := 4) (as := [vA G 58, vI l1]) (st := [vA G 0]) 0 2 e_X11_hour_2.2.2.2.2.2.2.2.1 (kCVof m_X0_goBy l_X11_349) rfl (by decide) (kC_self isC_5) (by decide) (by decide) rfl rfl (by show (1 : Nat) ≤ 8; decide) ?_
        refine Run.mono h (fun r5 s6 h => ?_)
        refine R_eqs (st2 := [vI r5, vA G 0]) rfl rfl ?_
        refine R_callV (mc := 0) (ms := 0) (mc' := 0) (ms' := 0) (M' := M_X11_give) (d' := 0) (as := [vI r5]) (st := []) 11 1 e_X11_hour_2.2.2.2.2.2.2.2.2.1 (kCVof m_X11_give l_X11_176) rfl (by decide) kx_0 (by decide) (by decide) rfl rfl (by show (0 : Nat) ≤ 8; decide) ?_
        refine Run.mono h (fun r7 s8 h => ?_)
        refine R_eqs (st2 := [vI r7]) rfl rfl ?_
        exact R_ireturn e_X11_hour_2.2.2.2.2.2.2.2.2.2 rfl h
      · replace h := h.2 q
        refine R_aload_n e_X11_hour_1.2.2.2.2.2.2.2.1 0 rfl ?_
        refine R_iconst e_X11_hour_1.2.2.2.2.2.2.2.2.1 ?_
        refine R_callV (mc := 0) (ms := 0) (mc' := 0) (ms' := 0) (M' := M_X11_deny) (d' := 0) (as := [vI 4]) (st := []) 11 1 e_X11_hour_1.2.2.2.2.2.2.2.2.2 (kCVof m_X11_deny l_X11_132) rfl (by decide) kx_0 (by decide) (by decide) rfl rfl (by show (0 : Nat) ≤ 8; decide) ?_
        refine Run.mono h (fun r9 s10 h => ?_)
        refine R_eqs (st2 := [vI r9]) rfl rfl ?_
        exact R_ireturn e_X11_hour_2.1 rfl h
    · replace h := h.2 q
      refine R_aload_n e_X11_hour_0.2.2.2.2.2.2.1 0 rfl ?_
      refine R_iconst e_X11_hour_0.2.2.2.2.2.2.2.1 ?_
      refine R_callV (mc := 0) (ms := 0) (mc' := 0) (ms' := 0) (M' := M_X11_deny) (d' := 0) (as := [vI 1]) (st := []) 11 1 e_X11_hour_0.2.2.2.2.2.2.2.2.1 (kCVof m_X11_deny l_X11_132) rfl (by decide) kx_0 (by decide) (by decide) rfl rfl (by show (0 : Nat) ≤ 8; decide) ?_
      refine Run.mono h (fun r11 s12 h => ?_)
      refine R_eqs (st2 := [vI r11]) rfl rfl ?_
      exact R_ireturn e_X11_hour_0.2.2.2.2.2.2.2.2.2 rfl h
/-! KiteLand.walk(II)I -/
theorem e_X11_walk_0 : decode cX11_walk 0 = .ok (.aload_n 0, 1) ∧ decode cX11_walk 1 = .ok (.getfield 43, 3) ∧ decode cX11_walk 4 = .ok (.iload_n 1, 1) ∧ decode cX11_walk 5 = .ok (.invokevirtual 238, 3) ∧ decode cX11_walk 8 = .ok (.ifCond .eq 12, 3) ∧ decode cX11_walk 11 = .ok (.iload_n 2, 1) ∧ decode cX11_walk 12 = .ok (.ifCond .lt 8, 3) ∧ decode cX11_walk 15 = .ok (.iload_n 2, 1) ∧ decode cX11_walk 16 = .ok (.iconst 5, 1) ∧ decode cX11_walk 17 = .ok (.if_icmp .lt 9, 3) := by decide +kernel
theorem e_X11_walk_1 : decode cX11_walk 20 = .ok (.aload_n 0, 1) ∧ decode cX11_walk 21 = .ok (.iconst 1, 1) ∧ decode cX11_walk 22 = .ok (.invokevirtual 132, 3) ∧ decode cX11_walk 25 = .ok (.ireturn, 1) ∧ decode cX11_walk 26 = .ok (.aload_n 0, 1) ∧ decode cX11_walk 27 = .ok (.getfield 43, 3) ∧ decode cX11_walk 30 = .ok (.iload_n 1, 1) ∧ decode cX11_walk 31 = .ok (.iload_n 2, 1) ∧ decode cX11_walk 32 = .ok (.invokevirtual 353, 3) ∧ decode cX11_walk 35 = .ok (.ifCond .ne 10, 3) := by decide +kernel
theorem e_X11_walk_2 : decode cX11_walk 38 = .ok (.aload_n 0, 1) ∧ decode cX11_walk 39 = .ok (.bipush 7, 2) ∧ decode cX11_walk 41 = .ok (.invokevirtual 132, 3) ∧ decode cX11_walk 44 = .ok (.ireturn, 1) ∧ decode cX11_walk 45 = .ok (.aload_n 0, 1) ∧ decode cX11_walk 46 = .ok (.getfield 43, 3) ∧ decode cX11_walk 49 = .ok (.iload_n 1, 1) ∧ decode cX11_walk 50 = .ok (.iload_n 2, 1) ∧ decode cX11_walk 51 = .ok (.invokevirtual 356, 3) ∧ decode cX11_walk 54 = .ok (.aload_n 0, 1) := by decide +kernel
theorem e_X11_walk_3 : decode cX11_walk 55 = .ok (.aload_n 0, 1) ∧ decode cX11_walk 56 = .ok (.aload_n 0, 1) ∧ decode cX11_walk 57 = .ok (.getfield 43, 3) ∧ decode cX11_walk 60 = .ok (.getfield 241, 3) ∧ decode cX11_walk 63 = .ok (.iload_n 1, 1) ∧ decode cX11_walk 64 = .ok (.aaload, 1) ∧ decode cX11_walk 65 = .ok (.getfield 245, 3) ∧ decode cX11_walk 68 = .ok (.aload_n 0, 1) ∧ decode cX11_walk 69 = .ok (.getfield 43, 3) ∧ decode cX11_walk 72 = .ok (.getfield 241, 3) := by decide +kernel
theorem e_X11_walk_4 : decode cX11_walk 75 = .ok (.iload_n 1, 1) ∧ decode cX11_walk 76 = .ok (.aaload, 1) ∧ decode cX11_walk 77 = .ok (.getfield 250, 3) ∧ decode cX11_walk 80 = .ok (.invokevirtual 359, 3) ∧ decode cX11_walk 83 = .ok (.invokevirtual 176, 3) ∧ decode cX11_walk 86 = .ok (.ireturn, 1) := by decide +kernel
theorem S_X11_walk {G : Kg} {σ : Kmem} {Q : Int → Kmem → Prop} {l1 l2 : Int}  (h : Run G WX M_X0_hasKite 0 0 0 [vA G 5, vI l1] σ (fun r1 s2 => (rI r1) ∧ ((r1 = 0 → Run G WX M_X11_deny 0 0 0 [vA G 0, vI 1] s2 (fun r4 s5 => Q r4 s5)) ∧ (r1 ≠ 0 → (rI l2) ∧ ((l2 < 0 → Run G WX M_X11_deny 0 0 0 [vA G 0, vI 1] s2 (fun r7 s8 => Q r7 s8)) ∧ (0 ≤ l2 → ((l2 < 5 → Run G WX M_X0_mayStep 2 0 0 [vA G 5, vI l1, vI l2] s2 (fun r9 s10 => (rI r9) ∧ ((r9 ≠ 0 → Run G WX M_X0_stepHand 0 0 0 [vA G 5, vI l1, vI l2] s10 (fun r12 s13 => (0 ≤ l1 ∧ l1 < 6) ∧ (0 ≤ l1 ∧ l1 < 6) ∧ Run G WX M_X11_fieldNumber 0 0 0 [vA G 0, vI (s13 (5 + 6 + l1) 1), vI (s13 (5 + 6 + l1) 2)] s13 (fun r16 s17 => Run G WX M_X11_give 0 0 0 [vA G 0, vI r16] s17 (fun r18 s19 => Q r18 s19)))) ∧ (r9 = 0 → Run G WX M_X11_deny 0 0 0 [vA G 0, vI 7] s10 (fun r20 s21 => Q r20 s21))))) ∧ (5 ≤ l2 → Run G WX M_X11_deny 0 0 0 [vA G 0, vI 1] s2 (fun r22 s23 => Q r22 s23))))))))) : Run G WX M_X11_walk 3 0 0 [vA G 0, vI l1, vI l2] σ Q := by
  refine Run.of (by decide +kernel) (by show (3 : Nat) ≤ 3; decide) ?_
  show Ex G WX M_X11_walk 3 0 0 0 [(0, vA G 0), (1, vI l1), (2, vI l2)] [] σ Q
  refine R_aload_n e_X11_walk_0.1 0 rfl ?_
  refine R_getA 11 7 5 e_X11_walk_0.2.1 f_X11_43 kx_0 (fun _ _ => rfl) rx_0_7 (by decide) ?_
  refine R_iload_n e_X11_walk_0.2.2.1 1 rfl ?_
  refine R_callV (mc := 0) (ms := 0) (mc' := 0) (ms' := 0) (M' := M_X0_hasKite) (d' := 0) (as := [vI l1]) (st := []) 0 1 e_X11_walk_0.2.2.2.1 (kCVof m_X0_hasKite l_X11_238) rfl (by decide) (kC_self isC_5) (by decide) (by decide) rfl rfl (by show (0 : Nat) ≤ 8; decide) ?_
  refine Run.mono h (fun r1 s2 h => ?_)
  refine R_eqs (st2 := [vI r1]) rfl rfl ?_
  obtain ⟨q3, h⟩ := h
  refine R_if_eq 20 e_X11_walk_0.2.2.2.2.1 (by decide) q3  (fun q => ?_) (fun q => ?_)
  · replace h := h.1 q
    refine R_aload_n e_X11_walk_1.1 0 rfl ?_
    refine R_iconst e_X11_walk_1.2.1 ?_
    refine R_callV (mc := 0) (ms := 0) (mc' := 0) (ms' := 0) (M' := M_X11_deny) (d' := 0) (as := [vI 1]) (st := []) 11 1 e_X11_walk_1.2.2.1 (kCVof m_X11_deny l_X11_132) rfl (by decide) kx_0 (by decide) (by decide) rfl rfl (by show (0 : Nat) ≤ 8; decide) ?_
    refine Run.mono h (fun r4 s5 h => ?_)
    refine R_eqs (st2 := [vI r4]) rfl rfl ?_
    exact R_ireturn e_X11_walk_1.2.2.2.1 rfl h
  · replace h := h.2 q
    refine R_iload_n e_X11_walk_0.2.2.2.2.2.1 2 rfl ?_
    obtain ⟨q6, h⟩ := h
    refine R_if_lt 20 e_X11_walk_0.2.2.2.2.2.2.1 (by decide) q6  (fun q => ?_) (fun q => ?_)
    · replace h := h.1 q
      refine R_aload_n e_X11_walk_1.1 0 rfl ?_
      refine R_iconst e_X11_walk_1.2.1 ?_
      refine R_callV (mc := 0) (ms := 0) (mc' := 0) (ms' := 0) (M' := M_X11_deny) (d' := 0) (as := [vI 1]) (st := []) 11 1 e_X11_walk_1.2.2.1 (kCVof m_X11_deny l_X11_132) rfl (by decide) kx_0 (by decide) (by decide) rfl rfl (by show (0 : Nat) ≤ 8; decide) ?_
      refine Run.mono h (fun r7 s8 h => ?_)
      refine R_eqs (st2 := [vI r7]) rfl rfl ?_
      exact R_ireturn e_X11_walk_1.2.2.2.1 rfl h
    · replace h := h.2 q
      refine R_iload_n e_X11_walk_0.2.2.2.2.2.2.2.1 2 rfl ?_
      refine R_iconst e_X11_walk_0.2.2.2.2.2.2.2.2.1 ?_
      refine R_icmp_lt 26 e_X11_walk_0.2.2.2.2.2.2.2.2.2 (by decide) q6 (by decide) (fun q => ?_) (fun q => ?_)
      · replace h := h.1 q
        refine R_aload_n e_X11_walk_1.2.2.2.2.1 0 rfl ?_
        refine R_getA 11 7 5 e_X11_walk_1.2.2.2.2.2.1 f_X11_43 kx_0 (fun _ _ => rfl) rx_0_7 (by decide) ?_
        refine R_iload_n e_X11_walk_1.2.2.2.2.2.2.1 1 rfl ?_
        refine R_iload_n e_X11_walk_1.2.2.2.2.2.2.2.1 2 rfl ?_
        refine R_callV (mc := 0) (ms := 0) (mc' := 0) (ms' := 0) (M' := M_X0_mayStep) (d' := 2) (as := [vI l1, vI l2]) (st := []) 0 2 e_X11_walk_1.2.2.2.2.2.2.2.2.1 (kCVof m_X0_mayStep l_X11_353) rfl (by decide) (kC_self isC_5) (by decide) (by decide) rfl rfl (by show (0 : Nat) ≤ 8; decide) ?_
        refine Run.mono h (fun r9 s10 h => ?_)
        refine R_eqs (st2 := [vI r9]) rfl rfl ?_
        obtain ⟨q11, h⟩ := h
        refine R_if_ne 45 e_X11_walk_1.2.2.2.2.2.2.2.2.2 (by decide) q11  (fun q => ?_) (fun q => ?_)
        · replace h := h.1 q
          refine R_aload_n e_X11_walk_2.2.2.2.2.1 0 rfl ?_
          refine R_getA 11 7 5 e_X11_walk_2.2.2.2.2.2.1 f_X11_43 kx_0 (fun _ _ => rfl) rx_0_7 (by decide) ?_
          refine R_iload_n e_X11_walk_2.2.2.2.2.2.2.1 1 rfl ?_
          refine R_iload_n e_X11_walk_2.2.2.2.2.2.2.2.1 2 rfl ?_
          refine R_callV (mc := 0) (ms := 0) (mc' := 0) (ms' := 0) (M' := M_X0_stepHand) (d' := 0) (as := [vI l1, vI l2]) (st := []) 0 2 e_X11_walk_2.2.2.2.2.2.2.2.2.1 (kCVof m_X0_stepHand l_X11_356) rfl (by decide) (kC_self isC_5) (by decide) (by decide) rfl rfl (by show (0 : Nat) ≤ 8; decide) ?_
          refine Run.mono h (fun r12 s13 h => ?_)
          refine R_eqs (st2 := []) rfl rfl ?_
          refine R_aload_n e_X11_walk_2.2.2.2.2.2.2.2.2.2 0 rfl ?_
          refine R_aload_n e_X11_walk_3.1 0 rfl ?_
          refine R_aload_n e_X11_walk_3.2.1 0 rfl ?_
          refine R_getA 11 7 5 e_X11_walk_3.2.2.1 f_X11_43 kx_0 (fun _ _ => rfl) rx_0_7 (by decide) ?_
          refine R_getA 0 10 (5 + 3) e_X11_walk_3.2.2.2.1 f_X11_241 (kC_self isC_5) (fun _ _ => rfl) (kC_r10 isC_5) (kC_n3 isC_5) ?_
          refine R_iload_n e_X11_walk_3.2.2.2.2.1 1 rfl ?_
          obtain ⟨q14, h⟩ := h
          refine R_aald 27 6 (5 + 6 + l1) e_X11_walk_3.2.2.2.2.2.1 (by decide) (kC_kites isC_5) q14 (kC_kiteAt isC_5 q14) (kC_kiteN isC_5 q14) ?_
          refine R_getI 3 1 1 e_X11_walk_3.2.2.2.2.2.2.1 f_X11_245 (kC_kite isC_5 q14) (fun _ _ => rfl) rfl ?_
          refine R_aload_n e_X11_walk_3.2.2.2.2.2.2.2.1 0 rfl ?_
          refine R_getA 11 7 5 e_X11_walk_3.2.2.2.2.2.2.2.2.1 f_X11_43 kx_0 (fun _ _ => rfl) rx_0_7 (by decide) ?_
          refine R_getA 0 10 (5 + 3) e_X11_walk_3.2.2.2.2.2.2.2.2.2 f_X11_241 (kC_self isC_5) (fun _ _ => rfl) (kC_r10 isC_5) (kC_n3 isC_5) ?_
          refine R_iload_n e_X11_walk_4.1 1 rfl ?_
          obtain ⟨q15, h⟩ := h
          refine R_aald 27 6 (5 + 6 + l1) e_X11_walk_4.2.1 (by decide) (kC_kites isC_5) q15 (kC_kiteAt isC_5 q15) (kC_kiteN isC_5 q15) ?_
          refine R_getI 3 2 2 e_X11_walk_4.2.2.1 f_X11_250 (kC_kite isC_5 q15) (fun _ _ => rfl) rfl ?_
          refine R_callV (mc := 0) (ms := 0) (mc' := 0) (ms' := 0) (M' := M_X11_fieldNumber) (d' := 0) (as := [vI (s13 (5 + 6 + l1) 1), vI (s13 (5 + 6 + l1) 2)]) (st := [vA G 0]) 11 2 e_X11_walk_4.2.2.2.1 (kCVof m_X11_fieldNumber l_X11_359) rfl (by decide) kx_0 (by decide) (by decide) rfl rfl (by show (1 : Nat) ≤ 8; decide) ?_
          refine Run.mono h (fun r16 s17 h => ?_)
          refine R_eqs (st2 := [vI r16, vA G 0]) rfl rfl ?_
          refine R_callV (mc := 0) (ms := 0) (mc' := 0) (ms' := 0) (M' := M_X11_give) (d' := 0) (as := [vI r16]) (st := []) 11 1 e_X11_walk_4.2.2.2.2.1 (kCVof m_X11_give l_X11_176) rfl (by decide) kx_0 (by decide) (by decide) rfl rfl (by show (0 : Nat) ≤ 8; decide) ?_
          refine Run.mono h (fun r18 s19 h => ?_)
          refine R_eqs (st2 := [vI r18]) rfl rfl ?_
          exact R_ireturn e_X11_walk_4.2.2.2.2.2 rfl h
        · replace h := h.2 q
          refine R_aload_n e_X11_walk_2.1 0 rfl ?_
          refine R_bipush e_X11_walk_2.2.1 (by decide) ?_
          refine R_callV (mc := 0) (ms := 0) (mc' := 0) (ms' := 0) (M' := M_X11_deny) (d' := 0) (as := [vI 7]) (st := []) 11 1 e_X11_walk_2.2.2.1 (kCVof m_X11_deny l_X11_132) rfl (by decide) kx_0 (by decide) (by decide) rfl rfl (by show (0 : Nat) ≤ 8; decide) ?_
          refine Run.mono h (fun r20 s21 h => ?_)
          refine R_eqs (st2 := [vI r20]) rfl rfl ?_
          exact R_ireturn e_X11_walk_2.2.2.2.1 rfl h
      · replace h := h.2 q
        refine R_aload_n e_X11_walk_1.1 0 rfl ?_
        refine R_iconst e_X11_walk_1.2.1 ?_
        refine R_callV (mc := 0) (ms := 0) (mc' := 0) (ms' := 0) (M' := M_X11_deny) (d' := 0) (as := [vI 1]) (st := []) 11 1 e_X11_walk_1.2.2.1 (kCVof m_X11_deny l_X11_132) rfl (by decide) kx_0 (by decide) (by decide) rfl rfl (by show (0 : Nat) ≤ 8; decide) ?_
        refine Run.mono h (fun r22 s23 h => ?_)
        refine R_eqs (st2 := [vI r22]) rfl rfl ?_
        exact R_ireturn e_X11_walk_1.2.2.2.1 rfl h
/-! KiteLand.cut(IZ)Z -/
theorem e_X11_cut_0 : decode cX11_cut 0 = .ok (.aload_n 0, 1) ∧ decode cX11_cut 1 = .ok (.getfield 43, 3) ∧ decode cX11_cut 4 = .ok (.iload_n 1, 1) ∧ decode cX11_cut 5 = .ok (.invokevirtual 238, 3) ∧ decode cX11_cut 8 = .ok (.ifCond .ne 9, 3) ∧ decode cX11_cut 11 = .ok (.aload_n 0, 1) ∧ decode cX11_cut 12 = .ok (.iconst 1, 1) ∧ decode cX11_cut 13 = .ok (.invokevirtual 113, 3) ∧ decode cX11_cut 16 = .ok (.ireturn, 1) ∧ decode cX11_cut 17 = .ok (.aload_n 0, 1) := by decide +kernel
theorem e_X11_cut_1 : decode cX11_cut 18 = .ok (.getfield 43, 3) ∧ decode cX11_cut 21 = .ok (.getfield 241, 3) ∧ decode cX11_cut 24 = .ok (.iload_n 1, 1) ∧ decode cX11_cut 25 = .ok (.aaload, 1) ∧ decode cX11_cut 26 = .ok (.getfield 362, 3) ∧ decode cX11_cut 29 = .ok (.iload_n 2, 1) ∧ decode cX11_cut 30 = .ok (.if_icmp .ne 10, 3) ∧ decode cX11_cut 33 = .ok (.aload_n 0, 1) ∧ decode cX11_cut 34 = .ok (.bipush 7, 2) ∧ decode cX11_cut 36 = .ok (.invokevirtual 113, 3) := by decide +kernel
theorem e_X11_cut_2 : decode cX11_cut 39 = .ok (.ireturn, 1) ∧ decode cX11_cut 40 = .ok (.aload_n 0, 1) ∧ decode cX11_cut 41 = .ok (.getfield 43, 3) ∧ decode cX11_cut 44 = .ok (.getfield 241, 3) ∧ decode cX11_cut 47 = .ok (.iload_n 1, 1) ∧ decode cX11_cut 48 = .ok (.aaload, 1) ∧ decode cX11_cut 49 = .ok (.iload_n 2, 1) ∧ decode cX11_cut 50 = .ok (.putfield 362, 3) ∧ decode cX11_cut 53 = .ok (.aload_n 0, 1) ∧ decode cX11_cut 54 = .ok (.invokevirtual 120, 3) := by decide +kernel
theorem e_X11_cut_3 : decode cX11_cut 57 = .ok (.ireturn, 1) := by decide +kernel
theorem S_X11_cut {G : Kg} {σ : Kmem} {Q : Int → Kmem → Prop} {l1 l2 : Int}  (h : Run G WX M_X0_hasKite 0 0 0 [vA G 5, vI l1] σ (fun r1 s2 => (rI r1) ∧ ((r1 ≠ 0 → (0 ≤ l1 ∧ l1 < 6) ∧ (rI (s2 (5 + 6 + l1) 9)) ∧ (rI l2) ∧ ((s2 (5 + 6 + l1) 9 ≠ l2 → (0 ≤ l1 ∧ l1 < 6) ∧ (l2 = 0 ∨ l2 = 1) ∧ Run G WX M_X11_grant 0 0 0 [vA G 0] (kup s2 (5 + 6 + l1) 9 l2) (fun r9 s10 => (r9 = 0 ∨ r9 = 1) ∧ Q r9 s10)) ∧ (s2 (5 + 6 + l1) 9 = l2 → Run G WX M_X11_refuse 0 0 0 [vA G 0, vI 7] s2 (fun r12 s13 => (r12 = 0 ∨ r12 = 1) ∧ Q r12 s13)))) ∧ (r1 = 0 → Run G WX M_X11_refuse 0 0 0 [vA G 0, vI 1] s2 (fun r15 s16 => (r15 = 0 ∨ r15 = 1) ∧ Q r15 s16))))) : Run G WX M_X11_cut 1 0 0 [vA G 0, vI l1, vI l2] σ Q := by
  refine Run.of (by decide +kernel) (by show (3 : Nat) ≤ 3; decide) ?_
  show Ex G WX M_X11_cut 1 0 0 0 [(0, vA G 0), (1, vI l1), (2, vI l2)] [] σ Q
  refine R_aload_n e_X11_cut_0.1 0 rfl ?_
  refine R_getA 11 7 5 e_X11_cut_0.2.1 f_X11_43 kx_0 (fun _ _ => rfl) rx_0_7 (by decide) ?_
  refine R_iload_n e_X11_cut_0.2.2.1 1 rfl ?_
  refine R_callV (mc := 0) (ms := 0) (mc' := 0) (ms' := 0) (M' := M_X0_hasKite) (d' := 0) (as := [vI l1]) (st := []) 0 1 e_X11_cut_0.2.2.2.1 (kCVof m_X0_hasKite l_X11_238) rfl (by decide) (kC_self isC_5) (by decide) (by decide) rfl rfl (by show (0 : Nat) ≤ 8; decide) ?_
  refine Run.mono h (fun r1 s2 h => ?_)
  refine R_eqs (st2 := [vI r1]) rfl rfl ?_
  obtain ⟨q3, h⟩ := h
  refine R_if_ne 17 e_X11_cut_0.2.2.2.2.1 (by decide) q3  (fun q => ?_) (fun q => ?_)
  · replace h := h.1 q
    refine R_aload_n e_X11_cut_0.2.2.2.2.2.2.2.2.2 0 rfl ?_
    refine R_getA 11 7 5 e_X11_cut_1.1 f_X11_43 kx_0 (fun _ _ => rfl) rx_0_7 (by decide) ?_
    refine R_getA 0 10 (5 + 3) e_X11_cut_1.2.1 f_X11_241 (kC_self isC_5) (fun _ _ => rfl) (kC_r10 isC_5) (kC_n3 isC_5) ?_
    refine R_iload_n e_X11_cut_1.2.2.1 1 rfl ?_
    obtain ⟨q4, h⟩ := h
    refine R_aald 27 6 (5 + 6 + l1) e_X11_cut_1.2.2.2.1 (by decide) (kC_kites isC_5) q4 (kC_kiteAt isC_5 q4) (kC_kiteN isC_5 q4) ?_
    refine R_getI 3 9 9 e_X11_cut_1.2.2.2.2.1 f_X11_362 (kC_kite isC_5 q4) (fun _ _ => rfl) rfl ?_
    refine R_iload_n e_X11_cut_1.2.2.2.2.2.1 2 rfl ?_
    obtain ⟨q5, h⟩ := h
    obtain ⟨q6, h⟩ := h
    refine R_icmp_ne 40 e_X11_cut_1.2.2.2.2.2.2.1 (by decide) q5 q6 (fun q => ?_) (fun q => ?_)
    · replace h := h.1 q
      refine R_aload_n e_X11_cut_2.2.1 0 rfl ?_
      refine R_getA 11 7 5 e_X11_cut_2.2.2.1 f_X11_43 kx_0 (fun _ _ => rfl) rx_0_7 (by decide) ?_
      refine R_getA 0 10 (5 + 3) e_X11_cut_2.2.2.2.1 f_X11_241 (kC_self isC_5) (fun _ _ => rfl) (kC_r10 isC_5) (kC_n3 isC_5) ?_
      refine R_iload_n e_X11_cut_2.2.2.2.2.1 1 rfl ?_
      obtain ⟨q7, h⟩ := h
      refine R_aald 27 6 (5 + 6 + l1) e_X11_cut_2.2.2.2.2.2.1 (by decide) (kC_kites isC_5) q7 (kC_kiteAt isC_5 q7) (kC_kiteN isC_5 q7) ?_
      refine R_iload_n e_X11_cut_2.2.2.2.2.2.2.1 2 rfl ?_
      obtain ⟨q8, h⟩ := h
      refine R_putZ 3 9 9 WX_ok e_X11_cut_2.2.2.2.2.2.2.2.1 f_X11_362 (kC_kite isC_5 q7) rfl rfl rfl q8 ?_
      refine R_aload_n e_X11_cut_2.2.2.2.2.2.2.2.2.1 0 rfl ?_
      refine R_callV (mc := 0) (ms := 0) (mc' := 0) (ms' := 0) (M' := M_X11_grant) (d' := 0) (as := []) (st := []) 11 0 e_X11_cut_2.2.2.2.2.2.2.2.2.2 (kCVof m_X11_grant l_X11_120) rfl (by decide) kx_0 (by decide) (by decide) rfl rfl (by show (0 : Nat) ≤ 8; decide) ?_
      refine Run.mono h (fun r9 s10 h => ?_)
      refine R_eqs (st2 := [vI r9]) rfl rfl ?_
      obtain ⟨q11, h⟩ := h
      exact R_zreturn e_X11_cut_3 rfl q11 h
    · replace h := h.2 q
      refine R_aload_n e_X11_cut_1.2.2.2.2.2.2.2.1 0 rfl ?_
      refine R_bipush e_X11_cut_1.2.2.2.2.2.2.2.2.1 (by decide) ?_
      refine R_callV (mc := 0) (ms := 0) (mc' := 0) (ms' := 0) (M' := M_X11_refuse) (d' := 0) (as := [vI 7]) (st := []) 11 1 e_X11_cut_1.2.2.2.2.2.2.2.2.2 (kCVof m_X11_refuse l_X11_113) rfl (by decide) kx_0 (by decide) (by decide) rfl rfl (by show (0 : Nat) ≤ 8; decide) ?_
      refine Run.mono h (fun r12 s13 h => ?_)
      refine R_eqs (st2 := [vI r12]) rfl rfl ?_
      obtain ⟨q14, h⟩ := h
      exact R_zreturn e_X11_cut_2.1 rfl q14 h
  · replace h := h.2 q
    refine R_aload_n e_X11_cut_0.2.2.2.2.2.1 0 rfl ?_
    refine R_iconst e_X11_cut_0.2.2.2.2.2.2.1 ?_
    refine R_callV (mc := 0) (ms := 0) (mc' := 0) (ms' := 0) (M' := M_X11_refuse) (d' := 0) (as := [vI 1]) (st := []) 11 1 e_X11_cut_0.2.2.2.2.2.2.2.1 (kCVof m_X11_refuse l_X11_113) rfl (by decide) kx_0 (by decide) (by decide) rfl rfl (by show (0 : Nat) ≤ 8; decide) ?_
    refine Run.mono h (fun r15 s16 h => ?_)
    refine R_eqs (st2 := [vI r15]) rfl rfl ?_
    obtain ⟨q17, h⟩ := h
    exact R_zreturn e_X11_cut_0.2.2.2.2.2.2.2.2.1 rfl q17 h
/-! KiteLand.sell(II)I -/
theorem e_X11_sell_0 : decode cX11_sell 0 = .ok (.aload_n 0, 1) ∧ decode cX11_sell 1 = .ok (.getfield 43, 3) ∧ decode cX11_sell 4 = .ok (.iload_n 1, 1) ∧ decode cX11_sell 5 = .ok (.invokevirtual 238, 3) ∧ decode cX11_sell 8 = .ok (.ifCond .eq 15, 3) ∧ decode cX11_sell 11 = .ok (.iload_n 2, 1) ∧ decode cX11_sell 12 = .ok (.bipush (-9), 2) ∧ decode cX11_sell 14 = .ok (.if_icmp .lt 9, 3) ∧ decode cX11_sell 17 = .ok (.iload_n 2, 1) ∧ decode cX11_sell 18 = .ok (.bipush 9, 2) := by decide +kernel
theorem e_X11_sell_1 : decode cX11_sell 20 = .ok (.if_icmp .le 9, 3) ∧ decode cX11_sell 23 = .ok (.aload_n 0, 1) ∧ decode cX11_sell 24 = .ok (.iconst 1, 1) ∧ decode cX11_sell 25 = .ok (.invokevirtual 132, 3) ∧ decode cX11_sell 28 = .ok (.ireturn, 1) ∧ decode cX11_sell 29 = .ok (.aload_n 0, 1) ∧ decode cX11_sell 30 = .ok (.getfield 43, 3) ∧ decode cX11_sell 33 = .ok (.getfield 241, 3) ∧ decode cX11_sell 36 = .ok (.iload_n 1, 1) ∧ decode cX11_sell 37 = .ok (.aaload, 1) := by decide +kernel
theorem e_X11_sell_2 : decode cX11_sell 38 = .ok (.getfield 256, 3) ∧ decode cX11_sell 41 = .ok (.iload_n 2, 1) ∧ decode cX11_sell 42 = .ok (.iadd, 1) ∧ decode cX11_sell 43 = .ok (.istore_n 3, 1) ∧ decode cX11_sell 44 = .ok (.iload_n 3, 1) ∧ decode cX11_sell 45 = .ok (.ifCond .lt 9, 3) ∧ decode cX11_sell 48 = .ok (.iload_n 3, 1) ∧ decode cX11_sell 49 = .ok (.bipush 9, 2) ∧ decode cX11_sell 51 = .ok (.if_icmp .le 10, 3) ∧ decode cX11_sell 54 = .ok (.aload_n 0, 1) := by decide +kernel
theorem e_X11_sell_3 : decode cX11_sell 55 = .ok (.bipush 7, 2) ∧ decode cX11_sell 57 = .ok (.invokevirtual 132, 3) ∧ decode cX11_sell 60 = .ok (.ireturn, 1) ∧ decode cX11_sell 61 = .ok (.aload_n 0, 1) ∧ decode cX11_sell 62 = .ok (.getfield 43, 3) ∧ decode cX11_sell 65 = .ok (.getfield 241, 3) ∧ decode cX11_sell 68 = .ok (.iload_n 1, 1) ∧ decode cX11_sell 69 = .ok (.aaload, 1) ∧ decode cX11_sell 70 = .ok (.iload_n 3, 1) ∧ decode cX11_sell 71 = .ok (.putfield 256, 3) := by decide +kernel
theorem e_X11_sell_4 : decode cX11_sell 74 = .ok (.aload_n 0, 1) ∧ decode cX11_sell 75 = .ok (.iload_n 3, 1) ∧ decode cX11_sell 76 = .ok (.invokevirtual 176, 3) ∧ decode cX11_sell 79 = .ok (.ireturn, 1) := by decide +kernel
theorem S_X11_sell {G : Kg} {σ : Kmem} {Q : Int → Kmem → Prop} {l1 l2 : Int}  (h : Run G WX M_X0_hasKite 0 0 0 [vA G 5, vI l1] σ (fun r1 s2 => (rI r1) ∧ ((r1 = 0 → Run G WX M_X11_deny 0 0 0 [vA G 0, vI 1] s2 (fun r4 s5 => Q r4 s5)) ∧ (r1 ≠ 0 → (rI l2) ∧ ((l2 < -9 → Run G WX M_X11_deny 0 0 0 [vA G 0, vI 1] s2 (fun r7 s8 => Q r7 s8)) ∧ (-9 ≤ l2 → ((l2 ≤ 9 → (0 ≤ l1 ∧ l1 < 6) ∧ (rI ((s2 (5 + 6 + l1) 4) + l2)) ∧ (((s2 (5 + 6 + l1) 4) + l2 < 0 → Run G WX M_X11_deny 0 0 0 [vA G 0, vI 7] s2 (fun r11 s12 => Q r11 s12)) ∧ (0 ≤ (s2 (5 + 6 + l1) 4) + l2 → (((s2 (5 + 6 + l1) 4) + l2 ≤ 9 → (0 ≤ l1 ∧ l1 < 6) ∧ Run G WX M_X11_give 0 0 0 [vA G 0, vI ((s2 (5 + 6 + l1) 4) + l2)] (kup s2 (5 + 6 + l1) 4 ((s2 (5 + 6 + l1) 4) + l2)) (fun r14 s15 => Q r14 s15)) ∧ (9 < (s2 (5 + 6 + l1) 4) + l2 → Run G WX M_X11_deny 0 0 0 [vA G 0, vI 7] s2 (fun r16 s17 => Q r16 s17)))))) ∧ (9 < l2 → Run G WX M_X11_deny 0 0 0 [vA G 0, vI 1] s2 (fun r18 s19 => Q r18 s19))))))))) : Run G WX M_X11_sell 1 0 0 [vA G 0, vI l1, vI l2] σ Q := by
  refine Run.of (by decide +kernel) (by show (3 : Nat) ≤ 4; decide) ?_
  show Ex G WX M_X11_sell 1 0 0 0 [(0, vA G 0), (1, vI l1), (2, vI l2)] [] σ Q
  refine R_aload_n e_X11_sell_0.1 0 rfl ?_
  refine R_getA 11 7 5 e_X11_sell_0.2.1 f_X11_43 kx_0 (fun _ _ => rfl) rx_0_7 (by decide) ?_
  refine R_iload_n e_X11_sell_0.2.2.1 1 rfl ?_
  refine R_callV (mc := 0) (ms := 0) (mc' := 0) (ms' := 0) (M' := M_X0_hasKite) (d' := 0) (as := [vI l1]) (st := []) 0 1 e_X11_sell_0.2.2.2.1 (kCVof m_X0_hasKite l_X11_238) rfl (by decide) (kC_self isC_5) (by decide) (by decide) rfl rfl (by show (0 : Nat) ≤ 8; decide) ?_
  refine Run.mono h (fun r1 s2 h => ?_)
  refine R_eqs (st2 := [vI r1]) rfl rfl ?_
  obtain ⟨q3, h⟩ := h
  refine R_if_eq 23 e_X11_sell_0.2.2.2.2.1 (by decide) q3  (fun q => ?_) (fun q => ?_)
  · replace h := h.1 q
    refine R_aload_n e_X11_sell_1.2.1 0 rfl ?_
    refine R_iconst e_X11_sell_1.2.2.1 ?_
    refine R_callV (mc := 0) (ms := 0) (mc' := 0) (ms' := 0) (M' := M_X11_deny) (d' := 0) (as := [vI 1]) (st := []) 11 1 e_X11_sell_1.2.2.2.1 (kCVof m_X11_deny l_X11_132) rfl (by decide) kx_0 (by decide) (by decide) rfl rfl (by show (0 : Nat) ≤ 8; decide) ?_
    refine Run.mono h (fun r4 s5 h => ?_)
    refine R_eqs (st2 := [vI r4]) rfl rfl ?_
    exact R_ireturn e_X11_sell_1.2.2.2.2.1 rfl h
  · replace h := h.2 q
    refine R_iload_n e_X11_sell_0.2.2.2.2.2.1 2 rfl ?_
    refine R_bipush e_X11_sell_0.2.2.2.2.2.2.1 (by decide) ?_
    obtain ⟨q6, h⟩ := h
    refine R_icmp_lt 23 e_X11_sell_0.2.2.2.2.2.2.2.1 (by decide) q6 (by decide) (fun q => ?_) (fun q => ?_)
    · replace h := h.1 q
      refine R_aload_n e_X11_sell_1.2.1 0 rfl ?_
      refine R_iconst e_X11_sell_1.2.2.1 ?_
      refine R_callV (mc := 0) (ms := 0) (mc' := 0) (ms' := 0) (M' := M_X11_deny) (d' := 0) (as := [vI 1]) (st := []) 11 1 e_X11_sell_1.2.2.2.1 (kCVof m_X11_deny l_X11_132) rfl (by decide) kx_0 (by decide) (by decide) rfl rfl (by show (0 : Nat) ≤ 8; decide) ?_
      refine Run.mono h (fun r7 s8 h => ?_)
      refine R_eqs (st2 := [vI r7]) rfl rfl ?_
      exact R_ireturn e_X11_sell_1.2.2.2.2.1 rfl h
    · replace h := h.2 q
      refine R_iload_n e_X11_sell_0.2.2.2.2.2.2.2.2.1 2 rfl ?_
      refine R_bipush e_X11_sell_0.2.2.2.2.2.2.2.2.2 (by decide) ?_
      refine R_icmp_le 29 e_X11_sell_1.1 (by decide) q6 (by decide) (fun q => ?_) (fun q => ?_)
      · replace h := h.1 q
        refine R_aload_n e_X11_sell_1.2.2.2.2.2.1 0 rfl ?_
        refine R_getA 11 7 5 e_X11_sell_1.2.2.2.2.2.2.1 f_X11_43 kx_0 (fun _ _ => rfl) rx_0_7 (by decide) ?_
        refine R_getA 0 10 (5 + 3) e_X11_sell_1.2.2.2.2.2.2.2.1 f_X11_241 (kC_self isC_5) (fun _ _ => rfl) (kC_r10 isC_5) (kC_n3 isC_5) ?_
        refine R_iload_n e_X11_sell_1.2.2.2.2.2.2.2.2.1 1 rfl ?_
        obtain ⟨q9, h⟩ := h
        refine R_aald 27 6 (5 + 6 + l1) e_X11_sell_1.2.2.2.2.2.2.2.2.2 (by decide) (kC_kites isC_5) q9 (kC_kiteAt isC_5 q9) (kC_kiteN isC_5 q9) ?_
        refine R_getI 3 4 4 e_X11_sell_2.1 f_X11_256 (kC_kite isC_5 q9) (fun _ _ => rfl) rfl ?_
        refine R_iload_n e_X11_sell_2.2.1 2 rfl ?_
        refine R_iadd e_X11_sell_2.2.2.1 ?_
        refine R_istore_n (ls2 := [(3, vI ((s2 (5 + 6 + l1) 4) + l2)), (0, vA G 0), (1, vI l1), (2, vI l2)]) e_X11_sell_2.2.2.2.1 (by decide) rfl ?_
        refine R_iload_n e_X11_sell_2.2.2.2.2.1 0 rfl ?_
        obtain ⟨q10, h⟩ := h
        refine R_if_lt 54 e_X11_sell_2.2.2.2.2.2.1 (by decide) q10  (fun q => ?_) (fun q => ?_)
        · replace h := h.1 q
          refine R_aload_n e_X11_sell_2.2.2.2.2.2.2.2.2.2 1 rfl ?_
          refine R_bipush e_X11_sell_3.1 (by decide) ?_
          refine R_callV (mc := 0) (ms := 0) (mc' := 0) (ms' := 0) (M' := M_X11_deny) (d' := 0) (as := [vI 7]) (st := []) 11 1 e_X11_sell_3.2.1 (kCVof m_X11_deny l_X11_132) rfl (by decide) kx_0 (by decide) (by decide) rfl rfl (by show (0 : Nat) ≤ 8; decide) ?_
          refine Run.mono h (fun r11 s12 h => ?_)
          refine R_eqs (st2 := [vI r11]) rfl rfl ?_
          exact R_ireturn e_X11_sell_3.2.2.1 rfl h
        · replace h := h.2 q
          refine R_iload_n e_X11_sell_2.2.2.2.2.2.2.1 0 rfl ?_
          refine R_bipush e_X11_sell_2.2.2.2.2.2.2.2.1 (by decide) ?_
          refine R_icmp_le 61 e_X11_sell_2.2.2.2.2.2.2.2.2.1 (by decide) q10 (by decide) (fun q => ?_) (fun q => ?_)
          · replace h := h.1 q
            refine R_aload_n e_X11_sell_3.2.2.2.1 1 rfl ?_
            refine R_getA 11 7 5 e_X11_sell_3.2.2.2.2.1 f_X11_43 kx_0 (fun _ _ => rfl) rx_0_7 (by decide) ?_
            refine R_getA 0 10 (5 + 3) e_X11_sell_3.2.2.2.2.2.1 f_X11_241 (kC_self isC_5) (fun _ _ => rfl) (kC_r10 isC_5) (kC_n3 isC_5) ?_
            refine R_iload_n e_X11_sell_3.2.2.2.2.2.2.1 2 rfl ?_
            obtain ⟨q13, h⟩ := h
            refine R_aald 27 6 (5 + 6 + l1) e_X11_sell_3.2.2.2.2.2.2.2.1 (by decide) (kC_kites isC_5) q13 (kC_kiteAt isC_5 q13) (kC_kiteN isC_5 q13) ?_
            refine R_iload_n e_X11_sell_3.2.2.2.2.2.2.2.2.1 0 rfl ?_
            refine R_putI 3 4 4 WX_ok e_X11_sell_3.2.2.2.2.2.2.2.2.2 f_X11_256 (kC_kite isC_5 q13) rfl rfl rfl ?_
            refine R_aload_n e_X11_sell_4.1 1 rfl ?_
            refine R_iload_n e_X11_sell_4.2.1 0 rfl ?_
            refine R_callV (mc := 0) (ms := 0) (mc' := 0) (ms' := 0) (M' := M_X11_give) (d' := 0) (as := [vI ((s2 (5 + 6 + l1) 4) + l2)]) (st := []) 11 1 e_X11_sell_4.2.2.1 (kCVof m_X11_give l_X11_176) rfl (by decide) kx_0 (by decide) (by decide) rfl rfl (by show (0 : Nat) ≤ 8; decide) ?_
            refine Run.mono h (fun r14 s15 h => ?_)
            refine R_eqs (st2 := [vI r14]) rfl rfl ?_
            exact R_ireturn e_X11_sell_4.2.2.2 rfl h
          · replace h := h.2 q
            refine R_aload_n e_X11_sell_2.2.2.2.2.2.2.2.2.2 1 rfl ?_
            refine R_bipush e_X11_sell_3.1 (by decide) ?_
            refine R_callV (mc := 0) (ms := 0) (mc' := 0) (ms' := 0) (M' := M_X11_deny) (d' := 0) (as := [vI 7]) (st := []) 11 1 e_X11_sell_3.2.1 (kCVof m_X11_deny l_X11_132) rfl (by decide) kx_0 (by decide) (by decide) rfl rfl (by show (0 : Nat) ≤ 8; decide) ?_
            refine Run.mono h (fun r16 s17 h => ?_)
            refine R_eqs (st2 := [vI r16]) rfl rfl ?_
            exact R_ireturn e_X11_sell_3.2.2.1 rfl h
      · replace h := h.2 q
        refine R_aload_n e_X11_sell_1.2.1 0 rfl ?_
        refine R_iconst e_X11_sell_1.2.2.1 ?_
        refine R_callV (mc := 0) (ms := 0) (mc' := 0) (ms' := 0) (M' := M_X11_deny) (d' := 0) (as := [vI 1]) (st := []) 11 1 e_X11_sell_1.2.2.2.1 (kCVof m_X11_deny l_X11_132) rfl (by decide) kx_0 (by decide) (by decide) rfl rfl (by show (0 : Nat) ≤ 8; decide) ?_
        refine Run.mono h (fun r18 s19 h => ?_)
        refine R_eqs (st2 := [vI r18]) rfl rfl ?_
        exact R_ireturn e_X11_sell_1.2.2.2.2.1 rfl h
/-! KiteLand.blow(III)Z -/
theorem e_X11_blow_0 : decode cX11_blow 0 = .ok (.aload_n 0, 1) ∧ decode cX11_blow 1 = .ok (.iload_n 1, 1) ∧ decode cX11_blow 2 = .ok (.invokevirtual 228, 3) ∧ decode cX11_blow 5 = .ok (.ifCond .eq 22, 3) ∧ decode cX11_blow 8 = .ok (.iload_n 2, 1) ∧ decode cX11_blow 9 = .ok (.ifCond .lt 18, 3) ∧ decode cX11_blow 12 = .ok (.iload_n 2, 1) ∧ decode cX11_blow 13 = .ok (.bipush 7, 2) ∧ decode cX11_blow 15 = .ok (.if_icmp .gt 12, 3) ∧ decode cX11_blow 18 = .ok (.iload_n 3, 1) := by decide +kernel
theorem e_X11_blow_1 : decode cX11_blow 19 = .ok (.ifCond .lt 8, 3) ∧ decode cX11_blow 22 = .ok (.iload_n 3, 1) ∧ decode cX11_blow 23 = .ok (.iconst 3, 1) ∧ decode cX11_blow 24 = .ok (.if_icmp .le 9, 3) ∧ decode cX11_blow 27 = .ok (.aload_n 0, 1) ∧ decode cX11_blow 28 = .ok (.iconst 1, 1) ∧ decode cX11_blow 29 = .ok (.invokevirtual 113, 3) ∧ decode cX11_blow 32 = .ok (.ireturn, 1) ∧ decode cX11_blow 33 = .ok (.aload_n 0, 1) ∧ decode cX11_blow 34 = .ok (.getfield 43, 3) := by decide +kernel
theorem e_X11_blow_2 : decode cX11_blow 37 = .ok (.getfield 231, 3) ∧ decode cX11_blow 40 = .ok (.iload_n 1, 1) ∧ decode cX11_blow 41 = .ok (.iload_n 2, 1) ∧ decode cX11_blow 42 = .ok (.iastore, 1) ∧ decode cX11_blow 43 = .ok (.aload_n 0, 1) ∧ decode cX11_blow 44 = .ok (.getfield 43, 3) ∧ decode cX11_blow 47 = .ok (.getfield 235, 3) ∧ decode cX11_blow 50 = .ok (.iload_n 1, 1) ∧ decode cX11_blow 51 = .ok (.iload_n 3, 1) ∧ decode cX11_blow 52 = .ok (.iastore, 1) := by decide +kernel
theorem e_X11_blow_3 : decode cX11_blow 53 = .ok (.aload_n 0, 1) ∧ decode cX11_blow 54 = .ok (.invokevirtual 120, 3) ∧ decode cX11_blow 57 = .ok (.ireturn, 1) := by decide +kernel
theorem S_X11_blow {G : Kg} {σ : Kmem} {Q : Int → Kmem → Prop} {l1 l2 l3 : Int}  (h : Run G WX M_X11_isHourOfDay 0 0 0 [vA G 0, vI l1] σ (fun r1 s2 => (rI r1) ∧ ((r1 = 0 → Run G WX M_X11_refuse 0 0 0 [vA G 0, vI 1] s2 (fun r4 s5 => (r4 = 0 ∨ r4 = 1) ∧ Q r4 s5)) ∧ (r1 ≠ 0 → (rI l2) ∧ ((l2 < 0 → Run G WX M_X11_refuse 0 0 0 [vA G 0, vI 1] s2 (fun r8 s9 => (r8 = 0 ∨ r8 = 1) ∧ Q r8 s9)) ∧ (0 ≤ l2 → ((7 < l2 → Run G WX M_X11_refuse 0 0 0 [vA G 0, vI 1] s2 (fun r11 s12 => (r11 = 0 ∨ r11 = 1) ∧ Q r11 s12)) ∧ (l2 ≤ 7 → (rI l3) ∧ ((l3 < 0 → Run G WX M_X11_refuse 0 0 0 [vA G 0, vI 1] s2 (fun r15 s16 => (r15 = 0 ∨ r15 = 1) ∧ Q r15 s16)) ∧ (0 ≤ l3 → ((l3 ≤ 3 → (0 ≤ l1 ∧ l1 < 12) ∧ (0 ≤ l1 ∧ l1 < 12) ∧ Run G WX M_X11_grant 0 0 0 [vA G 0] (kup (kup s2 (5 + 1) l1 l2) (5 + 2) l1 l3) (fun r20 s21 => (r20 = 0 ∨ r20 = 1) ∧ Q r20 s21)) ∧ (3 < l3 → Run G WX M_X11_refuse 0 0 0 [vA G 0, vI 1] s2 (fun r23 s24 => (r23 = 0 ∨ r23 = 1) ∧ Q r23 s24))))))))))))) : Run G WX M_X11_blow 1 0 0 [vA G 0, vI l1, vI l2, vI l3] σ Q := by
  refine Run.of (by decide +kernel) (by show (4 : Nat) ≤ 4; decide) ?_
  show Ex G WX M_X11_blow 1 0 0 0 [(0, vA G 0), (1, vI l1), (2, vI l2), (3, vI l3)] [] σ Q
  refine R_aload_n e_X11_blow_0.1 0 rfl ?_
  refine R_iload_n e_X11_blow_0.2.1 1 rfl ?_
  refine R_callV (mc := 0) (ms := 0) (mc' := 0) (ms' := 0) (M' := M_X11_isHourOfDay) (d' := 0) (as := [vI l1]) (st := []) 11 1 e_X11_blow_0.2.2.1 (kCVof m_X11_isHourOfDay l_X11_228) rfl (by decide) kx_0 (by decide) (by decide) rfl rfl (by show (0 : Nat) ≤ 8; decide) ?_
  refine Run.mono h (fun r1 s2 h => ?_)
  refine R_eqs (st2 := [vI r1]) rfl rfl ?_
  obtain ⟨q3, h⟩ := h
  refine R_if_eq 27 e_X11_blow_0.2.2.2.1 (by decide) q3  (fun q => ?_) (fun q => ?_)
  · replace h := h.1 q
    refine R_aload_n e_X11_blow_1.2.2.2.2.1 0 rfl ?_
    refine R_iconst e_X11_blow_1.2.2.2.2.2.1 ?_
    refine R_callV (mc := 0) (ms := 0) (mc' := 0) (ms' := 0) (M' := M_X11_refuse) (d' := 0) (as := [vI 1]) (st := []) 11 1 e_X11_blow_1.2.2.2.2.2.2.1 (kCVof m_X11_refuse l_X11_113) rfl (by decide) kx_0 (by decide) (by decide) rfl rfl (by show (0 : Nat) ≤ 8; decide) ?_
    refine Run.mono h (fun r4 s5 h => ?_)
    refine R_eqs (st2 := [vI r4]) rfl rfl ?_
    obtain ⟨q6, h⟩ := h
    exact R_zreturn e_X11_blow_1.2.2.2.2.2.2.2.1 rfl q6 h
  · replace h := h.2 q
    refine R_iload_n e_X11_blow_0.2.2.2.2.1 2 rfl ?_
    obtain ⟨q7, h⟩ := h
    refine R_if_lt 27 e_X11_blow_0.2.2.2.2.2.1 (by decide) q7  (fun q => ?_) (fun q => ?_)
    · replace h := h.1 q
      refine R_aload_n e_X11_blow_1.2.2.2.2.1 0 rfl ?_
      refine R_iconst e_X11_blow_1.2.2.2.2.2.1 ?_
      refine R_callV (mc := 0) (ms := 0) (mc' := 0) (ms' := 0) (M' := M_X11_refuse) (d' := 0) (as := [vI 1]) (st := []) 11 1 e_X11_blow_1.2.2.2.2.2.2.1 (kCVof m_X11_refuse l_X11_113) rfl (by decide) kx_0 (by decide) (by decide) rfl rfl (by show (0 : Nat) ≤ 8; decide) ?_
      refine Run.mono h (fun r8 s9 h => ?_)
      refine R_eqs (st2 := [vI r8]) rfl rfl ?_
      obtain ⟨q10, h⟩ := h
      exact R_zreturn e_X11_blow_1.2.2.2.2.2.2.2.1 rfl q10 h
    · replace h := h.2 q
      refine R_iload_n e_X11_blow_0.2.2.2.2.2.2.1 2 rfl ?_
      refine R_bipush e_X11_blow_0.2.2.2.2.2.2.2.1 (by decide) ?_
      refine R_icmp_gt 27 e_X11_blow_0.2.2.2.2.2.2.2.2.1 (by decide) q7 (by decide) (fun q => ?_) (fun q => ?_)
      · replace h := h.1 q
        refine R_aload_n e_X11_blow_1.2.2.2.2.1 0 rfl ?_
        refine R_iconst e_X11_blow_1.2.2.2.2.2.1 ?_
        refine R_callV (mc := 0) (ms := 0) (mc' := 0) (ms' := 0) (M' := M_X11_refuse) (d' := 0) (as := [vI 1]) (st := []) 11 1 e_X11_blow_1.2.2.2.2.2.2.1 (kCVof m_X11_refuse l_X11_113) rfl (by decide) kx_0 (by decide) (by decide) rfl rfl (by show (0 : Nat) ≤ 8; decide) ?_
        refine Run.mono h (fun r11 s12 h => ?_)
        refine R_eqs (st2 := [vI r11]) rfl rfl ?_
        obtain ⟨q13, h⟩ := h
        exact R_zreturn e_X11_blow_1.2.2.2.2.2.2.2.1 rfl q13 h
      · replace h := h.2 q
        refine R_iload_n e_X11_blow_0.2.2.2.2.2.2.2.2.2 3 rfl ?_
        obtain ⟨q14, h⟩ := h
        refine R_if_lt 27 e_X11_blow_1.1 (by decide) q14  (fun q => ?_) (fun q => ?_)
        · replace h := h.1 q
          refine R_aload_n e_X11_blow_1.2.2.2.2.1 0 rfl ?_
          refine R_iconst e_X11_blow_1.2.2.2.2.2.1 ?_
          refine R_callV (mc := 0) (ms := 0) (mc' := 0) (ms' := 0) (M' := M_X11_refuse) (d' := 0) (as := [vI 1]) (st := []) 11 1 e_X11_blow_1.2.2.2.2.2.2.1 (kCVof m_X11_refuse l_X11_113) rfl (by decide) kx_0 (by decide) (by decide) rfl rfl (by show (0 : Nat) ≤ 8; decide) ?_
          refine Run.mono h (fun r15 s16 h => ?_)
          refine R_eqs (st2 := [vI r15]) rfl rfl ?_
          obtain ⟨q17, h⟩ := h
          exact R_zreturn e_X11_blow_1.2.2.2.2.2.2.2.1 rfl q17 h
        · replace h := h.2 q
          refine R_iload_n e_X11_blow_1.2.1 3 rfl ?_
          refine R_iconst e_X11_blow_1.2.2.1 ?_
          refine R_icmp_le 33 e_X11_blow_1.2.2.2.1 (by decide) q14 (by decide) (fun q => ?_) (fun q => ?_)
          · replace h := h.1 q
            refine R_aload_n e_X11_blow_1.2.2.2.2.2.2.2.2.1 0 rfl ?_
            refine R_getA 11 7 5 e_X11_blow_1.2.2.2.2.2.2.2.2.2 f_X11_43 kx_0 (fun _ _ => rfl) rx_0_7 (by decide) ?_
            refine R_getA 0 8 (5 + 1) e_X11_blow_2.1 f_X11_231 (kC_self isC_5) (fun _ _ => rfl) (kC_r8 isC_5) (kC_n1 isC_5) ?_
            refine R_iload_n e_X11_blow_2.2.1 1 rfl ?_
            refine R_iload_n e_X11_blow_2.2.2.1 2 rfl ?_
            obtain ⟨q18, h⟩ := h
            refine R_iast 12 WX_ok e_X11_blow_2.2.2.2.1 (kC_dirs isC_5) q18 ?_
            refine R_aload_n e_X11_blow_2.2.2.2.2.1 0 rfl ?_
            refine R_getA 11 7 5 e_X11_blow_2.2.2.2.2.2.1 f_X11_43 kx_0 (fun _ _ => rfl) rx_0_7 (by decide) ?_
            refine R_getA 0 9 (5 + 2) e_X11_blow_2.2.2.2.2.2.2.1 f_X11_235 (kC_self isC_5) (fun _ _ => rfl) (kC_r9 isC_5) (kC_n2 isC_5) ?_
            refine R_iload_n e_X11_blow_2.2.2.2.2.2.2.2.1 1 rfl ?_
            refine R_iload_n e_X11_blow_2.2.2.2.2.2.2.2.2.1 3 rfl ?_
            obtain ⟨q19, h⟩ := h
            refine R_iast 12 WX_ok e_X11_blow_2.2.2.2.2.2.2.2.2.2 (kC_forces isC_5) q19 ?_
            refine R_aload_n e_X11_blow_3.1 0 rfl ?_
            refine R_callV (mc := 0) (ms := 0) (mc' := 0) (ms' := 0) (M' := M_X11_grant) (d' := 0) (as := []) (st := []) 11 0 e_X11_blow_3.2.1 (kCVof m_X11_grant l_X11_120) rfl (by decide) kx_0 (by decide) (by decide) rfl rfl (by show (0 : Nat) ≤ 8; decide) ?_
            refine Run.mono h (fun r20 s21 h => ?_)
            refine R_eqs (st2 := [vI r20]) rfl rfl ?_
            obtain ⟨q22, h⟩ := h
            exact R_zreturn e_X11_blow_3.2.2 rfl q22 h
          · replace h := h.2 q
            refine R_aload_n e_X11_blow_1.2.2.2.2.1 0 rfl ?_
            refine R_iconst e_X11_blow_1.2.2.2.2.2.1 ?_
            refine R_callV (mc := 0) (ms := 0) (mc' := 0) (ms' := 0) (M' := M_X11_refuse) (d' := 0) (as := [vI 1]) (st := []) 11 1 e_X11_blow_1.2.2.2.2.2.2.1 (kCVof m_X11_refuse l_X11_113) rfl (by decide) kx_0 (by decide) (by decide) rfl rfl (by show (0 : Nat) ≤ 8; decide) ?_
            refine Run.mono h (fun r23 s24 h => ?_)
            refine R_eqs (st2 := [vI r23]) rfl rfl ?_
            obtain ⟨q25, h⟩ := h
            exact R_zreturn e_X11_blow_1.2.2.2.2.2.2.2.1 rfl q25 h
/-! KiteLand.rule(I)Z -/
theorem e_X11_rule_0 : decode cX11_rule 0 = .ok (.iload_n 1, 1) ∧ decode cX11_rule 1 = .ok (.ifCond .lt 8, 3) ∧ decode cX11_rule 4 = .ok (.iload_n 1, 1) ∧ decode cX11_rule 5 = .ok (.iconst 2, 1) ∧ decode cX11_rule 6 = .ok (.if_icmp .le 9, 3) ∧ decode cX11_rule 9 = .ok (.aload_n 0, 1) ∧ decode cX11_rule 10 = .ok (.iconst 1, 1) ∧ decode cX11_rule 11 = .ok (.invokevirtual 113, 3) ∧ decode cX11_rule 14 = .ok (.ireturn, 1) ∧ decode cX11_rule 15 = .ok (.aload_n 0, 1) := by decide +kernel
theorem e_X11_rule_1 : decode cX11_rule 16 = .ok (.getfield 43, 3) ∧ decode cX11_rule 19 = .ok (.iload_n 1, 1) ∧ decode cX11_rule 20 = .ok (.putfield 209, 3) ∧ decode cX11_rule 23 = .ok (.aload_n 0, 1) ∧ decode cX11_rule 24 = .ok (.invokevirtual 120, 3) ∧ decode cX11_rule 27 = .ok (.ireturn, 1) := by decide +kernel
theorem S_X11_rule {G : Kg} {σ : Kmem} {Q : Int → Kmem → Prop} {l1 : Int}  (h : (rI l1) ∧ ((l1 < 0 → Run G WX M_X11_refuse 0 0 0 [vA G 0, vI 1] σ (fun r2 s3 => (r2 = 0 ∨ r2 = 1) ∧ Q r2 s3)) ∧ (0 ≤ l1 → ((l1 ≤ 2 → Run G WX M_X11_grant 0 0 0 [vA G 0] (kup σ 5 3 l1) (fun r5 s6 => (r5 = 0 ∨ r5 = 1) ∧ Q r5 s6)) ∧ (2 < l1 → Run G WX M_X11_refuse 0 0 0 [vA G 0, vI 1] σ (fun r8 s9 => (r8 = 0 ∨ r8 = 1) ∧ Q r8 s9)))))) : Run G WX M_X11_rule 1 0 0 [vA G 0, vI l1] σ Q := by
  refine Run.of (by decide +kernel) (by show (2 : Nat) ≤ 2; decide) ?_
  show Ex G WX M_X11_rule 1 0 0 0 [(0, vA G 0), (1, vI l1)] [] σ Q
  refine R_iload_n e_X11_rule_0.1 1 rfl ?_
  obtain ⟨q1, h⟩ := h
  refine R_if_lt 9 e_X11_rule_0.2.1 (by decide) q1  (fun q => ?_) (fun q => ?_)
  · replace h := h.1 q
    refine R_aload_n e_X11_rule_0.2.2.2.2.2.1 0 rfl ?_
    refine R_iconst e_X11_rule_0.2.2.2.2.2.2.1 ?_
    refine R_callV (mc := 0) (ms := 0) (mc' := 0) (ms' := 0) (M' := M_X11_refuse) (d' := 0) (as := [vI 1]) (st := []) 11 1 e_X11_rule_0.2.2.2.2.2.2.2.1 (kCVof m_X11_refuse l_X11_113) rfl (by decide) kx_0 (by decide) (by decide) rfl rfl (by show (0 : Nat) ≤ 8; decide) ?_
    refine Run.mono h (fun r2 s3 h => ?_)
    refine R_eqs (st2 := [vI r2]) rfl rfl ?_
    obtain ⟨q4, h⟩ := h
    exact R_zreturn e_X11_rule_0.2.2.2.2.2.2.2.2.1 rfl q4 h
  · replace h := h.2 q
    refine R_iload_n e_X11_rule_0.2.2.1 1 rfl ?_
    refine R_iconst e_X11_rule_0.2.2.2.1 ?_
    refine R_icmp_le 15 e_X11_rule_0.2.2.2.2.1 (by decide) q1 (by decide) (fun q => ?_) (fun q => ?_)
    · replace h := h.1 q
      refine R_aload_n e_X11_rule_0.2.2.2.2.2.2.2.2.2 0 rfl ?_
      refine R_getA 11 7 5 e_X11_rule_1.1 f_X11_43 kx_0 (fun _ _ => rfl) rx_0_7 (by decide) ?_
      refine R_iload_n e_X11_rule_1.2.1 1 rfl ?_
      refine R_putI 0 3 3 WX_ok e_X11_rule_1.2.2.1 f_X11_209 (kC_self isC_5) rfl rfl rfl ?_
      refine R_aload_n e_X11_rule_1.2.2.2.1 0 rfl ?_
      refine R_callV (mc := 0) (ms := 0) (mc' := 0) (ms' := 0) (M' := M_X11_grant) (d' := 0) (as := []) (st := []) 11 0 e_X11_rule_1.2.2.2.2.1 (kCVof m_X11_grant l_X11_120) rfl (by decide) kx_0 (by decide) (by decide) rfl rfl (by show (0 : Nat) ≤ 8; decide) ?_
      refine Run.mono h (fun r5 s6 h => ?_)
      refine R_eqs (st2 := [vI r5]) rfl rfl ?_
      obtain ⟨q7, h⟩ := h
      exact R_zreturn e_X11_rule_1.2.2.2.2.2 rfl q7 h
    · replace h := h.2 q
      refine R_aload_n e_X11_rule_0.2.2.2.2.2.1 0 rfl ?_
      refine R_iconst e_X11_rule_0.2.2.2.2.2.2.1 ?_
      refine R_callV (mc := 0) (ms := 0) (mc' := 0) (ms' := 0) (M' := M_X11_refuse) (d' := 0) (as := [vI 1]) (st := []) 11 1 e_X11_rule_0.2.2.2.2.2.2.2.1 (kCVof m_X11_refuse l_X11_113) rfl (by decide) kx_0 (by decide) (by decide) rfl rfl (by show (0 : Nat) ≤ 8; decide) ?_
      refine Run.mono h (fun r8 s9 h => ?_)
      refine R_eqs (st2 := [vI r8]) rfl rfl ?_
      obtain ⟨q10, h⟩ := h
      exact R_zreturn e_X11_rule_0.2.2.2.2.2.2.2.2.1 rfl q10 h
/-! KiteLand.lease(II)Z -/
theorem e_X11_lease_0 : decode cX11_lease 0 = .ok (.aload_n 0, 1) ∧ decode cX11_lease 1 = .ok (.getfield 43, 3) ∧ decode cX11_lease 4 = .ok (.iload_n 1, 1) ∧ decode cX11_lease 5 = .ok (.invokevirtual 288, 3) ∧ decode cX11_lease 8 = .ok (.ifCond .eq 14, 3) ∧ decode cX11_lease 11 = .ok (.aload_n 0, 1) ∧ decode cX11_lease 12 = .ok (.getfield 43, 3) ∧ decode cX11_lease 15 = .ok (.iload_n 2, 1) ∧ decode cX11_lease 16 = .ok (.invokevirtual 238, 3) ∧ decode cX11_lease 19 = .ok (.ifCond .ne 9, 3) := by decide +kernel
theorem e_X11_lease_1 : decode cX11_lease 22 = .ok (.aload_n 0, 1) ∧ decode cX11_lease 23 = .ok (.iconst 1, 1) ∧ decode cX11_lease 24 = .ok (.invokevirtual 113, 3) ∧ decode cX11_lease 27 = .ok (.ireturn, 1) ∧ decode cX11_lease 28 = .ok (.aload_n 0, 1) ∧ decode cX11_lease 29 = .ok (.getfield 43, 3) ∧ decode cX11_lease 32 = .ok (.getfield 291, 3) ∧ decode cX11_lease 35 = .ok (.iload_n 1, 1) ∧ decode cX11_lease 36 = .ok (.aaload, 1) ∧ decode cX11_lease 37 = .ok (.getfield 299, 3) := by decide +kernel
theorem e_X11_lease_2 : decode cX11_lease 40 = .ok (.iload_n 2, 1) ∧ decode cX11_lease 41 = .ok (.if_icmp .ne 10, 3) ∧ decode cX11_lease 44 = .ok (.aload_n 0, 1) ∧ decode cX11_lease 45 = .ok (.bipush 7, 2) ∧ decode cX11_lease 47 = .ok (.invokevirtual 113, 3) ∧ decode cX11_lease 50 = .ok (.ireturn, 1) ∧ decode cX11_lease 51 = .ok (.aload_n 0, 1) ∧ decode cX11_lease 52 = .ok (.getfield 43, 3) ∧ decode cX11_lease 55 = .ok (.getfield 291, 3) ∧ decode cX11_lease 58 = .ok (.iload_n 1, 1) := by decide +kernel
theorem e_X11_lease_3 : decode cX11_lease 59 = .ok (.aaload, 1) ∧ decode cX11_lease 60 = .ok (.iload_n 2, 1) ∧ decode cX11_lease 61 = .ok (.putfield 299, 3) ∧ decode cX11_lease 64 = .ok (.aload_n 0, 1) ∧ decode cX11_lease 65 = .ok (.invokevirtual 120, 3) ∧ decode cX11_lease 68 = .ok (.ireturn, 1) := by decide +kernel
theorem S_X11_lease {G : Kg} {σ : Kmem} {Q : Int → Kmem → Prop} {l1 l2 : Int}  (h : Run G WX M_X0_hasTenant 0 0 0 [vA G 5, vI l1] σ (fun r1 s2 => (rI r1) ∧ ((r1 = 0 → Run G WX M_X11_refuse 0 0 0 [vA G 0, vI 1] s2 (fun r4 s5 => (r4 = 0 ∨ r4 = 1) ∧ Q r4 s5)) ∧ (r1 ≠ 0 → Run G WX M_X0_hasKite 0 0 0 [vA G 5, vI l2] s2 (fun r7 s8 => (rI r7) ∧ ((r7 ≠ 0 → (0 ≤ l1 ∧ l1 < 6) ∧ (rI (s8 (5 + 20 + l1) 3)) ∧ (rI l2) ∧ ((s8 (5 + 20 + l1) 3 ≠ l2 → (0 ≤ l1 ∧ l1 < 6) ∧ Run G WX M_X11_grant 0 0 0 [vA G 0] (kup s8 (5 + 20 + l1) 3 l2) (fun r14 s15 => (r14 = 0 ∨ r14 = 1) ∧ Q r14 s15)) ∧ (s8 (5 + 20 + l1) 3 = l2 → Run G WX M_X11_refuse 0 0 0 [vA G 0, vI 7] s8 (fun r17 s18 => (r17 = 0 ∨ r17 = 1) ∧ Q r17 s18)))) ∧ (r7 = 0 → Run G WX M_X11_refuse 0 0 0 [vA G 0, vI 1] s8 (fun r20 s21 => (r20 = 0 ∨ r20 = 1) ∧ Q r20 s21)))))))) : Run G WX M_X11_lease 1 0 0 [vA G 0, vI l1, vI l2] σ Q := by
  refine Run.of (by decide +kernel) (by show (3 : Nat) ≤ 3; decide) ?_
  show Ex G WX M_X11_lease 1 0 0 0 [(0, vA G 0), (1, vI l1), (2, vI l2)] [] σ Q
  refine R_aload_n e_X11_lease_0.1 0 rfl ?_
  refine R_getA 11 7 5 e_X11_lease_0.2.1 f_X11_43 kx_0 (fun _ _ => rfl) rx_0_7 (by decide) ?_
  refine R_iload_n e_X11_lease_0.2.2.1 1 rfl ?_
  refine R_callV (mc := 0) (ms := 0) (mc' := 0) (ms' := 0) (M' := M_X0_hasTenant) (d' := 0) (as := [vI l1]) (st := []) 0 1 e_X11_lease_0.2.2.2.1 (kCVof m_X0_hasTenant l_X11_288) rfl (by decide) (kC_self isC_5) (by decide) (by decide) rfl rfl (by show (0 : Nat) ≤ 8; decide) ?_
  refine Run.mono h (fun r1 s2 h => ?_)
  refine R_eqs (st2 := [vI r1]) rfl rfl ?_
  obtain ⟨q3, h⟩ := h
  refine R_if_eq 22 e_X11_lease_0.2.2.2.2.1 (by decide) q3  (fun q => ?_) (fun q => ?_)
  · replace h := h.1 q
    refine R_aload_n e_X11_lease_1.1 0 rfl ?_
    refine R_iconst e_X11_lease_1.2.1 ?_
    refine R_callV (mc := 0) (ms := 0) (mc' := 0) (ms' := 0) (M' := M_X11_refuse) (d' := 0) (as := [vI 1]) (st := []) 11 1 e_X11_lease_1.2.2.1 (kCVof m_X11_refuse l_X11_113) rfl (by decide) kx_0 (by decide) (by decide) rfl rfl (by show (0 : Nat) ≤ 8; decide) ?_
    refine Run.mono h (fun r4 s5 h => ?_)
    refine R_eqs (st2 := [vI r4]) rfl rfl ?_
    obtain ⟨q6, h⟩ := h
    exact R_zreturn e_X11_lease_1.2.2.2.1 rfl q6 h
  · replace h := h.2 q
    refine R_aload_n e_X11_lease_0.2.2.2.2.2.1 0 rfl ?_
    refine R_getA 11 7 5 e_X11_lease_0.2.2.2.2.2.2.1 f_X11_43 kx_0 (fun _ _ => rfl) rx_0_7 (by decide) ?_
    refine R_iload_n e_X11_lease_0.2.2.2.2.2.2.2.1 2 rfl ?_
    refine R_callV (mc := 0) (ms := 0) (mc' := 0) (ms' := 0) (M' := M_X0_hasKite) (d' := 0) (as := [vI l2]) (st := []) 0 1 e_X11_lease_0.2.2.2.2.2.2.2.2.1 (kCVof m_X0_hasKite l_X11_238) rfl (by decide) (kC_self isC_5) (by decide) (by decide) rfl rfl (by show (0 : Nat) ≤ 8; decide) ?_
    refine Run.mono h (fun r7 s8 h => ?_)
    refine R_eqs (st2 := [vI r7]) rfl rfl ?_
    obtain ⟨q9, h⟩ := h
    refine R_if_ne 28 e_X11_lease_0.2.2.2.2.2.2.2.2.2 (by decide) q9  (fun q => ?_) (fun q => ?_)
    · replace h := h.1 q
      refine R_aload_n e_X11_lease_1.2.2.2.2.1 0 rfl ?_
      refine R_getA 11 7 5 e_X11_lease_1.2.2.2.2.2.1 f_X11_43 kx_0 (fun _ _ => rfl) rx_0_7 (by decide) ?_
      refine R_getA 0 12 (5 + 5) e_X11_lease_1.2.2.2.2.2.2.1 f_X11_291 (kC_self isC_5) (fun _ _ => rfl) (kC_r12 isC_5) (kC_n5 isC_5) ?_
      refine R_iload_n e_X11_lease_1.2.2.2.2.2.2.2.1 1 rfl ?_
      obtain ⟨q10, h⟩ := h
      refine R_aald 29 6 (5 + 20 + l1) e_X11_lease_1.2.2.2.2.2.2.2.2.1 (by decide) (kC_tens isC_5) q10 (kC_tenAt isC_5 q10) (kC_tenN isC_5 q10) ?_
      refine R_getI 9 3 3 e_X11_lease_1.2.2.2.2.2.2.2.2.2 f_X11_299 (kC_ten isC_5 q10) (fun _ _ => rfl) rfl ?_
      refine R_iload_n e_X11_lease_2.1 2 rfl ?_
      obtain ⟨q11, h⟩ := h
      obtain ⟨q12, h⟩ := h
      refine R_icmp_ne 51 e_X11_lease_2.2.1 (by decide) q11 q12 (fun q => ?_) (fun q => ?_)
      · replace h := h.1 q
        refine R_aload_n e_X11_lease_2.2.2.2.2.2.2.1 0 rfl ?_
        refine R_getA 11 7 5 e_X11_lease_2.2.2.2.2.2.2.2.1 f_X11_43 kx_0 (fun _ _ => rfl) rx_0_7 (by decide) ?_
        refine R_getA 0 12 (5 + 5) e_X11_lease_2.2.2.2.2.2.2.2.2.1 f_X11_291 (kC_self isC_5) (fun _ _ => rfl) (kC_r12 isC_5) (kC_n5 isC_5) ?_
        refine R_iload_n e_X11_lease_2.2.2.2.2.2.2.2.2.2 1 rfl ?_
        obtain ⟨q13, h⟩ := h
        refine R_aald 29 6 (5 + 20 + l1) e_X11_lease_3.1 (by decide) (kC_tens isC_5) q13 (kC_tenAt isC_5 q13) (kC_tenN isC_5 q13) ?_
        refine R_iload_n e_X11_lease_3.2.1 2 rfl ?_
        refine R_putI 9 3 3 WX_ok e_X11_lease_3.2.2.1 f_X11_299 (kC_ten isC_5 q13) rfl rfl rfl ?_
        refine R_aload_n e_X11_lease_3.2.2.2.1 0 rfl ?_
        refine R_callV (mc := 0) (ms := 0) (mc' := 0) (ms' := 0) (M' := M_X11_grant) (d' := 0) (as := []) (st := []) 11 0 e_X11_lease_3.2.2.2.2.1 (kCVof m_X11_grant l_X11_120) rfl (by decide) kx_0 (by decide) (by decide) rfl rfl (by show (0 : Nat) ≤ 8; decide) ?_
        refine Run.mono h (fun r14 s15 h => ?_)
        refine R_eqs (st2 := [vI r14]) rfl rfl ?_
        obtain ⟨q16, h⟩ := h
        exact R_zreturn e_X11_lease_3.2.2.2.2.2 rfl q16 h
      · replace h := h.2 q
        refine R_aload_n e_X11_lease_2.2.2.1 0 rfl ?_
        refine R_bipush e_X11_lease_2.2.2.2.1 (by decide) ?_
        refine R_callV (mc := 0) (ms := 0) (mc' := 0) (ms' := 0) (M' := M_X11_refuse) (d' := 0) (as := [vI 7]) (st := []) 11 1 e_X11_lease_2.2.2.2.2.1 (kCVof m_X11_refuse l_X11_113) rfl (by decide) kx_0 (by decide) (by decide) rfl rfl (by show (0 : Nat) ≤ 8; decide) ?_
        refine Run.mono h (fun r17 s18 h => ?_)
        refine R_eqs (st2 := [vI r17]) rfl rfl ?_
        obtain ⟨q19, h⟩ := h
        exact R_zreturn e_X11_lease_2.2.2.2.2.2.1 rfl q19 h
    · replace h := h.2 q
      refine R_aload_n e_X11_lease_1.1 0 rfl ?_
      refine R_iconst e_X11_lease_1.2.1 ?_
      refine R_callV (mc := 0) (ms := 0) (mc' := 0) (ms' := 0) (M' := M_X11_refuse) (d' := 0) (as := [vI 1]) (st := []) 11 1 e_X11_lease_1.2.2.1 (kCVof m_X11_refuse l_X11_113) rfl (by decide) kx_0 (by decide) (by decide) rfl rfl (by show (0 : Nat) ≤ 8; decide) ?_
      refine Run.mono h (fun r20 s21 h => ?_)
      refine R_eqs (st2 := [vI r20]) rfl rfl ?_
      obtain ⟨q22, h⟩ := h
      exact R_zreturn e_X11_lease_1.2.2.2.1 rfl q22 h
/-! KiteLand.reap(I)I -/
theorem e_X11_reap_0 : decode cX11_reap 0 = .ok (.aload_n 0, 1) ∧ decode cX11_reap 1 = .ok (.getfield 43, 3) ∧ decode cX11_reap 4 = .ok (.iload_n 1, 1) ∧ decode cX11_reap 5 = .ok (.invokevirtual 271, 3) ∧ decode cX11_reap 8 = .ok (.ifCond .ne 9, 3) ∧ decode cX11_reap 11 = .ok (.aload_n 0, 1) ∧ decode cX11_reap 12 = .ok (.iconst 1, 1) ∧ decode cX11_reap 13 = .ok (.invokevirtual 132, 3) ∧ decode cX11_reap 16 = .ok (.ireturn, 1) ∧ decode cX11_reap 17 = .ok (.aload_n 0, 1) := by decide +kernel
theorem e_X11_reap_1 : decode cX11_reap 18 = .ok (.getfield 43, 3) ∧ decode cX11_reap 21 = .ok (.getfield 274, 3) ∧ decode cX11_reap 24 = .ok (.iload_n 1, 1) ∧ decode cX11_reap 25 = .ok (.aaload, 1) ∧ decode cX11_reap 26 = .ok (.astore_n 2, 1) ∧ decode cX11_reap 27 = .ok (.aload_n 2, 1) ∧ decode cX11_reap 28 = .ok (.invokevirtual 365, 3) ∧ decode cX11_reap 31 = .ok (.ifCond .ne 10, 3) ∧ decode cX11_reap 34 = .ok (.aload_n 0, 1) ∧ decode cX11_reap 35 = .ok (.bipush 7, 2) := by decide +kernel
theorem e_X11_reap_2 : decode cX11_reap 37 = .ok (.invokevirtual 132, 3) ∧ decode cX11_reap 40 = .ok (.ireturn, 1) ∧ decode cX11_reap 41 = .ok (.aload_n 0, 1) ∧ decode cX11_reap 42 = .ok (.invokevirtual 215, 3) ∧ decode cX11_reap 45 = .ok (.aload_n 0, 1) ∧ decode cX11_reap 46 = .ok (.getfield 64, 3) ∧ decode cX11_reap 49 = .ok (.aload_n 2, 1) ∧ decode cX11_reap 50 = .ok (.getfield 278, 3) ∧ decode cX11_reap 53 = .ok (.aload_n 2, 1) ∧ decode cX11_reap 54 = .ok (.getfield 281, 3) := by decide +kernel
theorem e_X11_reap_3 : decode cX11_reap 57 = .ok (.invokevirtual 325, 3) ∧ decode cX11_reap 60 = .ok (.istore_n 3, 1) ∧ decode cX11_reap 61 = .ok (.iload_n 3, 1) ∧ decode cX11_reap 62 = .ok (.iconst (-1), 1) ∧ decode cX11_reap 63 = .ok (.if_icmp .ne 10, 3) ∧ decode cX11_reap 66 = .ok (.aload_n 0, 1) ∧ decode cX11_reap 67 = .ok (.bipush 6, 2) ∧ decode cX11_reap 69 = .ok (.invokevirtual 132, 3) ∧ decode cX11_reap 72 = .ok (.ireturn, 1) ∧ decode cX11_reap 73 = .ok (.aload_n 2, 1) := by decide +kernel
theorem e_X11_reap_4 : decode cX11_reap 74 = .ok (.iconst 0, 1) ∧ decode cX11_reap 75 = .ok (.putfield 285, 3) ∧ decode cX11_reap 78 = .ok (.aload_n 0, 1) ∧ decode cX11_reap 79 = .ok (.getfield 43, 3) ∧ decode cX11_reap 82 = .ok (.getfield 241, 3) ∧ decode cX11_reap 85 = .ok (.iload_n 3, 1) ∧ decode cX11_reap 86 = .ok (.aaload, 1) ∧ decode cX11_reap 87 = .ok (.aload_n 2, 1) ∧ decode cX11_reap 88 = .ok (.getfield 282, 3) ∧ decode cX11_reap 91 = .ok (.invokevirtual 368, 3) := by decide +kernel
theorem e_X11_reap_5 : decode cX11_reap 94 = .ok (.aload_n 0, 1) ∧ decode cX11_reap 95 = .ok (.iload_n 3, 1) ∧ decode cX11_reap 96 = .ok (.invokevirtual 176, 3) ∧ decode cX11_reap 99 = .ok (.ireturn, 1) := by decide +kernel
theorem S_X11_reap {G : Kg} {σ : Kmem} {Q : Int → Kmem → Prop} {l1 : Int}  (h : Run G WX M_X0_hasCrop 0 0 0 [vA G 5, vI l1] σ (fun r1 s2 => (rI r1) ∧ ((r1 ≠ 0 → (0 ≤ l1 ∧ l1 < 8) ∧ Run G WX M_X2_isRipe 0 0 0 [vA G (5 + 12 + l1)] s2 (fun r5 s6 => (rI r5) ∧ ((r5 ≠ 0 → Run G WX M_X11_lookNow 4 0 0 [vA G 0] s6 (fun r8 s9 => Run G WX M_X8_ownerOf 0 0 0 [vA G 58, vI (s9 (5 + 12 + l1) 1), vI (s9 (5 + 12 + l1) 2)] s9 (fun r10 s11 => (rI r10) ∧ ((r10 ≠ -1 → (0 ≤ r10 ∧ r10 < 6) ∧ Run G WX M_X3_earn 1 0 0 [vA G (5 + 6 + r10), vI ((kup s11 (5 + 12 + l1) 4 0) (5 + 12 + l1) 3)] (kup s11 (5 + 12 + l1) 4 0) (fun r14 s15 => Run G WX M_X11_give 0 0 0 [vA G 0, vI r10] s15 (fun r16 s17 => Q r16 s17))) ∧ (r10 = -1 → Run G WX M_X11_deny 0 0 0 [vA G 0, vI 6] s11 (fun r18 s19 => Q r18 s19)))))) ∧ (r5 = 0 → Run G WX M_X11_deny 0 0 0 [vA G 0, vI 7] s6 (fun r20 s21 => Q r20 s21))))) ∧ (r1 = 0 → Run G WX M_X11_deny 0 0 0 [vA G 0, vI 1] s2 (fun r22 s23 => Q r22 s23))))) : Run G WX M_X11_reap 5 0 0 [vA G 0, vI l1] σ Q := by
  refine Run.of (by decide +kernel) (by show (2 : Nat) ≤ 4; decide) ?_
  show Ex G WX M_X11_reap 5 0 0 0 [(0, vA G 0), (1, vI l1)] [] σ Q
  refine R_aload_n e_X11_reap_0.1 0 rfl ?_
  refine R_getA 11 7 5 e_X11_reap_0.2.1 f_X11_43 kx_0 (fun _ _ => rfl) rx_0_7 (by decide) ?_
  refine R_iload_n e_X11_reap_0.2.2.1 1 rfl ?_
  refine R_callV (mc := 0) (ms := 0) (mc' := 0) (ms' := 0) (M' := M_X0_hasCrop) (d' := 0) (as := [vI l1]) (st := []) 0 1 e_X11_reap_0.2.2.2.1 (kCVof m_X0_hasCrop l_X11_271) rfl (by decide) (kC_self isC_5) (by decide) (by decide) rfl rfl (by show (0 : Nat) ≤ 8; decide) ?_
  refine Run.mono h (fun r1 s2 h => ?_)
  refine R_eqs (st2 := [vI r1]) rfl rfl ?_
  obtain ⟨q3, h⟩ := h
  refine R_if_ne 17 e_X11_reap_0.2.2.2.2.1 (by decide) q3  (fun q => ?_) (fun q => ?_)
  · replace h := h.1 q
    refine R_aload_n e_X11_reap_0.2.2.2.2.2.2.2.2.2 0 rfl ?_
    refine R_getA 11 7 5 e_X11_reap_1.1 f_X11_43 kx_0 (fun _ _ => rfl) rx_0_7 (by decide) ?_
    refine R_getA 0 11 (5 + 4) e_X11_reap_1.2.1 f_X11_274 (kC_self isC_5) (fun _ _ => rfl) (kC_r11 isC_5) (kC_n4 isC_5) ?_
    refine R_iload_n e_X11_reap_1.2.2.1 1 rfl ?_
    obtain ⟨q4, h⟩ := h
    refine R_aald 28 8 (5 + 12 + l1) e_X11_reap_1.2.2.2.1 (by decide) (kC_crops isC_5) q4 (kC_cropAt isC_5 q4) (kC_cropN isC_5 q4) ?_
    refine R_astore_n (ls2 := [(2, vA G (5 + 12 + l1)), (0, vA G 0), (1, vI l1)]) e_X11_reap_1.2.2.2.2.1 (by decide) rfl ?_
    refine R_aload_n e_X11_reap_1.2.2.2.2.2.1 0 rfl ?_
    refine R_callV (mc := 0) (ms := 0) (mc' := 0) (ms' := 0) (M' := M_X2_isRipe) (d' := 0) (as := []) (st := []) 2 0 e_X11_reap_1.2.2.2.2.2.2.1 (kCVof m_X2_isRipe l_X11_365) rfl (by decide) (kC_crop isC_5 q4) (by decide) (by decide) rfl rfl (by show (0 : Nat) ≤ 8; decide) ?_
    refine Run.mono h (fun r5 s6 h => ?_)
    refine R_eqs (st2 := [vI r5]) rfl rfl ?_
    obtain ⟨q7, h⟩ := h
    refine R_if_ne 41 e_X11_reap_1.2.2.2.2.2.2.2.1 (by decide) q7  (fun q => ?_) (fun q => ?_)
    · replace h := h.1 q
      refine R_aload_n e_X11_reap_2.2.2.1 1 rfl ?_
      refine R_callV (mc := 0) (ms := 0) (mc' := 0) (ms' := 0) (M' := M_X11_lookNow) (d' := 4) (as := []) (st := []) 11 0 e_X11_reap_2.2.2.2.1 (kCVof m_X11_lookNow l_X11_215) rfl (by decide) kx_0 (by decide) (by decide) rfl rfl (by show (0 : Nat) ≤ 8; decide) ?_
      refine Run.mono h (fun r8 s9 h => ?_)
      refine R_eqs (st2 := []) rfl rfl ?_
      refine R_aload_n e_X11_reap_2.2.2.2.2.1 1 rfl ?_
      refine R_getA 11 10 58 e_X11_reap_2.2.2.2.2.2.1 f_X11_64 kx_0 (fun _ _ => rfl) rx_0_10 (by decide) ?_
      refine R_aload_n e_X11_reap_2.2.2.2.2.2.2.1 0 rfl ?_
      refine R_getI 2 1 1 e_X11_reap_2.2.2.2.2.2.2.2.1 f_X11_278 (kC_crop isC_5 q4) (fun _ _ => rfl) rfl ?_
      refine R_aload_n e_X11_reap_2.2.2.2.2.2.2.2.2.1 0 rfl ?_
      refine R_getI 2 2 2 e_X11_reap_2.2.2.2.2.2.2.2.2.2 f_X11_281 (kC_crop isC_5 q4) (fun _ _ => rfl) rfl ?_
      refine R_callV (mc := 0) (ms := 0) (mc' := 0) (ms' := 0) (M' := M_X8_ownerOf) (d' := 0) (as := [vI (s9 (5 + 12 + l1) 1), vI (s9 (5 + 12 + l1) 2)]) (st := []) 8 2 e_X11_reap_3.1 (kCVof m_X8_ownerOf l_X11_325) rfl (by decide) kx_58 (by decide) (by decide) rfl rfl (by show (0 : Nat) ≤ 8; decide) ?_
      refine Run.mono h (fun r10 s11 h => ?_)
      refine R_eqs (st2 := [vI r10]) rfl rfl ?_
      refine R_istore_n (ls2 := [(3, vI r10), (2, vA G (5 + 12 + l1)), (0, vA G 0), (1, vI l1)]) e_X11_reap_3.2.1 (by decide) rfl ?_
      refine R_iload_n e_X11_reap_3.2.2.1 0 rfl ?_
      refine R_iconst e_X11_reap_3.2.2.2.1 ?_
      obtain ⟨q12, h⟩ := h
      refine R_icmp_ne 73 e_X11_reap_3.2.2.2.2.1 (by decide) q12 (by decide) (fun q => ?_) (fun q => ?_)
      · replace h := h.1 q
        refine R_aload_n e_X11_reap_3.2.2.2.2.2.2.2.2.2 1 rfl ?_
        refine R_iconst e_X11_reap_4.1 ?_
        refine R_putI 2 4 4 WX_ok e_X11_reap_4.2.1 f_X11_285 (kC_crop isC_5 q4) rfl rfl rfl ?_
        refine R_aload_n e_X11_reap_4.2.2.1 2 rfl ?_
        refine R_getA 11 7 5 e_X11_reap_4.2.2.2.1 f_X11_43 kx_0 (fun _ _ => rfl) rx_0_7 (by decide) ?_
        refine R_getA 0 10 (5 + 3) e_X11_reap_4.2.2.2.2.1 f_X11_241 (kC_self isC_5) (fun _ _ => rfl) (kC_r10 isC_5) (kC_n3 isC_5) ?_
        refine R_iload_n e_X11_reap_4.2.2.2.2.2.1 0 rfl ?_
        obtain ⟨q13, h⟩ := h
        refine R_aald 27 6 (5 + 6 + r10) e_X11_reap_4.2.2.2.2.2.2.1 (by decide) (kC_kites isC_5) q13 (kC_kiteAt isC_5 q13) (kC_kiteN isC_5 q13) ?_
        refine R_aload_n e_X11_reap_4.2.2.2.2.2.2.2.1 1 rfl ?_
        refine R_getI 2 3 3 e_X11_reap_4.2.2.2.2.2.2.2.2.1 f_X11_282 (kC_crop isC_5 q4) (fun _ _ => rfl) rfl ?_
        refine R_callV (mc := 0) (ms := 0) (mc' := 0) (ms' := 0) (M' := M_X3_earn) (d' := 1) (as := [vI ((kup s11 (5 + 12 + l1) 4 0) (5 + 12 + l1) 3)]) (st := []) 3 1 e_X11_reap_4.2.2.2.2.2.2.2.2.2 (kCVof m_X3_earn l_X11_368) rfl (by decide) (kC_kite isC_5 q13) (by decide) (by decide) rfl rfl (by show (0 : Nat) ≤ 8; decide) ?_
        refine Run.mono h (fun r14 s15 h => ?_)
        refine R_eqs (st2 := []) rfl rfl ?_
        refine R_aload_n e_X11_reap_5.1 2 rfl ?_
        refine R_iload_n e_X11_reap_5.2.1 0 rfl ?_
        refine R_callV (mc := 0) (ms := 0) (mc' := 0) (ms' := 0) (M' := M_X11_give) (d' := 0) (as := [vI r10]) (st := []) 11 1 e_X11_reap_5.2.2.1 (kCVof m_X11_give l_X11_176) rfl (by decide) kx_0 (by decide) (by decide) rfl rfl (by show (0 : Nat) ≤ 8; decide) ?_
        refine Run.mono h (fun r16 s17 h => ?_)
        refine R_eqs (st2 := [vI r16]) rfl rfl ?_
        exact R_ireturn e_X11_reap_5.2.2.2 rfl h
      · replace h := h.2 q
        refine R_aload_n e_X11_reap_3.2.2.2.2.2.1 2 rfl ?_
        refine R_bipush e_X11_reap_3.2.2.2.2.2.2.1 (by decide) ?_
        refine R_callV (mc := 0) (ms := 0) (mc' := 0) (ms' := 0) (M' := M_X11_deny) (d' := 0) (as := [vI 6]) (st := []) 11 1 e_X11_reap_3.2.2.2.2.2.2.2.1 (kCVof m_X11_deny l_X11_132) rfl (by decide) kx_0 (by decide) (by decide) rfl rfl (by show (0 : Nat) ≤ 8; decide) ?_
        refine Run.mono h (fun r18 s19 h => ?_)
        refine R_eqs (st2 := [vI r18]) rfl rfl ?_
        exact R_ireturn e_X11_reap_3.2.2.2.2.2.2.2.2.1 rfl h
    · replace h := h.2 q
      refine R_aload_n e_X11_reap_1.2.2.2.2.2.2.2.2.1 1 rfl ?_
      refine R_bipush e_X11_reap_1.2.2.2.2.2.2.2.2.2 (by decide) ?_
      refine R_callV (mc := 0) (ms := 0) (mc' := 0) (ms' := 0) (M' := M_X11_deny) (d' := 0) (as := [vI 7]) (st := []) 11 1 e_X11_reap_2.1 (kCVof m_X11_deny l_X11_132) rfl (by decide) kx_0 (by decide) (by decide) rfl rfl (by show (0 : Nat) ≤ 8; decide) ?_
      refine Run.mono h (fun r20 s21 h => ?_)
      refine R_eqs (st2 := [vI r20]) rfl rfl ?_
      exact R_ireturn e_X11_reap_2.2.1 rfl h
  · replace h := h.2 q
    refine R_aload_n e_X11_reap_0.2.2.2.2.2.1 0 rfl ?_
    refine R_iconst e_X11_reap_0.2.2.2.2.2.2.1 ?_
    refine R_callV (mc := 0) (ms := 0) (mc' := 0) (ms' := 0) (M' := M_X11_deny) (d' := 0) (as := [vI 1]) (st := []) 11 1 e_X11_reap_0.2.2.2.2.2.2.2.1 (kCVof m_X11_deny l_X11_132) rfl (by decide) kx_0 (by decide) (by decide) rfl rfl (by show (0 : Nat) ≤ 8; decide) ?_
    refine Run.mono h (fun r22 s23 h => ?_)
    refine R_eqs (st2 := [vI r22]) rfl rfl ?_
    exact R_ireturn e_X11_reap_0.2.2.2.2.2.2.2.2.1 rfl h
