/-! KiteLand.status()I -/
theorem e_X11_status_0 : decode cX11_status 0 = .ok (.aload_n 0, 1) ∧ decode cX11_status 1 = .ok (.getfield 9, 3) ∧ decode cX11_status 4 = .ok (.ireturn, 1) := by decide +kernel
theorem S_X11_status {G : Kg} {σ : Kmem} {Q : Int → Kmem → Prop}  (h : Q (σ 0 0) σ) : Run G WX M_X11_status 0 0 0 [vA G 0] σ Q := by
  refine Run.of (by decide +kernel) (by show (1 : Nat) ≤ 1; decide) ?_
  show Ex G WX M_X11_status 0 0 0 0 [(0, vA G 0)] [] σ Q
  refine R_aload_n e_X11_status_0.1 0 rfl ?_
  refine R_getI 11 0 0 e_X11_status_0.2.1 f_X11_9 kx_0 (fun _ _ => rfl) rfl ?_
  exact R_ireturn e_X11_status_0.2.2 rfl h
/-! KiteLand.top()J -/
theorem e_X11_top_0 : decode cX11_top 0 = .ok (.aload_n 0, 1) ∧ decode cX11_top 1 = .ok (.getfield 13, 3) ∧ decode cX11_top 4 = .ok (.lreturn, 1) := by decide +kernel
theorem S_X11_top {G : Kg} {σ : Kmem} {Q : Int → Kmem → Prop}  (h : Q (σ 0 1) σ) : Run G WX M_X11_top 0 0 0 [vA G 0] σ Q := by
  refine Run.of (by decide +kernel) (by show (1 : Nat) ≤ 1; decide) ?_
  show Ex G WX M_X11_top 0 0 0 0 [(0, vA G 0)] [] σ Q
  refine R_aload_n e_X11_top_0.1 0 rfl ?_
  refine R_getL 11 1 1 e_X11_top_0.2.1 f_X11_13 kx_0 (fun _ _ => rfl) rfl ?_
  exact R_lreturn e_X11_top_0.2.2 rfl h
/-! KiteLand.bottom()J -/
theorem e_X11_bottom_0 : decode cX11_bottom 0 = .ok (.aload_n 0, 1) ∧ decode cX11_bottom 1 = .ok (.getfield 17, 3) ∧ decode cX11_bottom 4 = .ok (.lreturn, 1) := by decide +kernel
theorem S_X11_bottom {G : Kg} {σ : Kmem} {Q : Int → Kmem → Prop}  (h : Q (σ 0 2) σ) : Run G WX M_X11_bottom 0 0 0 [vA G 0] σ Q := by
  refine Run.of (by decide +kernel) (by show (1 : Nat) ≤ 1; decide) ?_
  show Ex G WX M_X11_bottom 0 0 0 0 [(0, vA G 0)] [] σ Q
  refine R_aload_n e_X11_bottom_0.1 0 rfl ?_
  refine R_getL 11 2 2 e_X11_bottom_0.2.1 f_X11_17 kx_0 (fun _ _ => rfl) rfl ?_
  exact R_lreturn e_X11_bottom_0.2.2 rfl h
/-! KiteLand.tray(III)Z -/
theorem e_X11_tray_0 : decode cX11_tray 0 = .ok (.aload_n 0, 1) ∧ decode cX11_tray 1 = .ok (.iload_n 1, 1) ∧ decode cX11_tray 2 = .ok (.invokevirtual 109, 3) ∧ decode cX11_tray 5 = .ok (.ifCond .eq 22, 3) ∧ decode cX11_tray 8 = .ok (.iload_n 2, 1) ∧ decode cX11_tray 9 = .ok (.ifCond .lt 18, 3) ∧ decode cX11_tray 12 = .ok (.iload_n 2, 1) ∧ decode cX11_tray 13 = .ok (.iconst 3, 1) ∧ decode cX11_tray 14 = .ok (.if_icmp .gt 13, 3) ∧ decode cX11_tray 17 = .ok (.iload_n 3, 1) := by decide +kernel
theorem e_X11_tray_1 : decode cX11_tray 18 = .ok (.ifCond .lt 9, 3) ∧ decode cX11_tray 21 = .ok (.iload_n 3, 1) ∧ decode cX11_tray 22 = .ok (.bipush 60, 2) ∧ decode cX11_tray 24 = .ok (.if_icmp .le 9, 3) ∧ decode cX11_tray 27 = .ok (.aload_n 0, 1) ∧ decode cX11_tray 28 = .ok (.iconst 1, 1) ∧ decode cX11_tray 29 = .ok (.invokevirtual 113, 3) ∧ decode cX11_tray 32 = .ok (.ireturn, 1) ∧ decode cX11_tray 33 = .ok (.aload_n 0, 1) ∧ decode cX11_tray 34 = .ok (.getfield 22, 3) := by decide +kernel
theorem e_X11_tray_2 : decode cX11_tray 37 = .ok (.iload_n 1, 1) ∧ decode cX11_tray 38 = .ok (.aaload, 1) ∧ decode cX11_tray 39 = .ok (.iload_n 2, 1) ∧ decode cX11_tray 40 = .ok (.iload_n 3, 1) ∧ decode cX11_tray 41 = .ok (.invokevirtual 116, 3) ∧ decode cX11_tray 44 = .ok (.aload_n 0, 1) ∧ decode cX11_tray 45 = .ok (.invokevirtual 120, 3) ∧ decode cX11_tray 48 = .ok (.ireturn, 1) := by decide +kernel
theorem S_X11_tray {G : Kg} {σ : Kmem} {Q : Int → Kmem → Prop} {l1 l2 l3 : Int}  (h : (rI (l1)) ∧ ((¬ ((0 : Int) ≤ l1 ∧ (l1 : Int) < 4) → Q 0 (kup σ 0 0 1)) ∧ (((0 : Int) ≤ l1 ∧ (l1 : Int) < 4) → (rI l2) ∧ ((l2 < 0 → Q 0 (kup σ 0 0 1)) ∧ (0 ≤ l2 → ((3 < l2 → Q 0 (kup σ 0 0 1)) ∧ (l2 ≤ 3 → (rI l3) ∧ ((l3 < 0 → Q 0 (kup σ 0 0 1)) ∧ (0 ≤ l3 → ((l3 ≤ 60 → (0 ≤ l1 ∧ l1 < 4) ∧ Run G WX M_X10_make 0 0 0 [vA G (adT l1), vI l2, vI l3] σ (fun r15 s16 => Q 1 (kup s16 0 0 0))) ∧ (60 < l3 → Q 0 (kup σ 0 0 1)))))))))))) : Run G WX M_X11_tray 1 0 0 [vA G 0, vI l1, vI l2, vI l3] σ Q := by
  refine Run.of (by decide +kernel) (by show (4 : Nat) ≤ 4; decide) ?_
  show Ex G WX M_X11_tray 1 0 0 0 [(0, vA G 0), (1, vI l1), (2, vI l2), (3, vI l3)] [] σ Q
  refine R_aload_n e_X11_tray_0.1 0 rfl ?_
  refine R_iload_n e_X11_tray_0.2.1 1 rfl ?_
  obtain ⟨q3, h⟩ := h
  refine R_callV (mc := 0) (ms := 0) (mc' := 0) (ms' := 0) (M' := M_X11_isTray) (d' := 0) (as := [vI l1]) (st := []) 11 1 e_X11_tray_0.2.2.1 (kCVof m_X11_isTray l_X11_109) rfl (by decide) kx_0 (by decide) (by decide) rfl rfl (by show (0 : Nat) ≤ 8; decide) ?_
  refine Run.mono (P_X11_isTray q3) (fun rr ss e => ?_)
  obtain ⟨e1, e2⟩ := e
  refine R_eqs (st2 := [vI (kb ((0 : Int) ≤ l1 ∧ (l1 : Int) < 4))]) (σ2 := σ) (by rw [e1]; rfl) e2 ?_
  refine R_if_eq 27 e_X11_tray_0.2.2.2.1 (by decide) (kb_r _) (fun q => ?_) (fun q => ?_)
  · replace h := h.1 (kb_f q)
    refine R_aload_n e_X11_tray_1.2.2.2.2.1 0 rfl ?_
    refine R_iconst e_X11_tray_1.2.2.2.2.2.1 ?_
    refine R_callV (mc := 0) (ms := 0) (mc' := 0) (ms' := 0) (M' := M_X11_refuse) (d' := 0) (as := [vI 1]) (st := []) 11 1 e_X11_tray_1.2.2.2.2.2.2.1 (kCVof m_X11_refuse l_X11_113) rfl (by decide) kx_0 (by decide) (by decide) rfl rfl (by show (0 : Nat) ≤ 8; decide) ?_
    refine S_X11_refuse ?_
    refine R_eqs (st2 := [vI 0]) (σ2 := (kup σ 0 0 1)) rfl rfl ?_
    exact R_zreturn e_X11_tray_1.2.2.2.2.2.2.2.1 rfl (Or.inl rfl) h
  · replace h := h.2 (kb_t q)
    refine R_iload_n e_X11_tray_0.2.2.2.2.1 2 rfl ?_
    obtain ⟨q6, h⟩ := h
    refine R_if_lt 27 e_X11_tray_0.2.2.2.2.2.1 (by decide) q6  (fun q => ?_) (fun q => ?_)
    · replace h := h.1 q
      refine R_aload_n e_X11_tray_1.2.2.2.2.1 0 rfl ?_
      refine R_iconst e_X11_tray_1.2.2.2.2.2.1 ?_
      refine R_callV (mc := 0) (ms := 0) (mc' := 0) (ms' := 0) (M' := M_X11_refuse) (d' := 0) (as := [vI 1]) (st := []) 11 1 e_X11_tray_1.2.2.2.2.2.2.1 (kCVof m_X11_refuse l_X11_113) rfl (by decide) kx_0 (by decide) (by decide) rfl rfl (by show (0 : Nat) ≤ 8; decide) ?_
      refine S_X11_refuse ?_
      refine R_eqs (st2 := [vI 0]) (σ2 := (kup σ 0 0 1)) rfl rfl ?_
      exact R_zreturn e_X11_tray_1.2.2.2.2.2.2.2.1 rfl (Or.inl rfl) h
    · replace h := h.2 q
      refine R_iload_n e_X11_tray_0.2.2.2.2.2.2.1 2 rfl ?_
      refine R_iconst e_X11_tray_0.2.2.2.2.2.2.2.1 ?_
      refine R_icmp_gt 27 e_X11_tray_0.2.2.2.2.2.2.2.2.1 (by decide) q6 (by decide) (fun q => ?_) (fun q => ?_)
      · replace h := h.1 q
        refine R_aload_n e_X11_tray_1.2.2.2.2.1 0 rfl ?_
        refine R_iconst e_X11_tray_1.2.2.2.2.2.1 ?_
        refine R_callV (mc := 0) (ms := 0) (mc' := 0) (ms' := 0) (M' := M_X11_refuse) (d' := 0) (as := [vI 1]) (st := []) 11 1 e_X11_tray_1.2.2.2.2.2.2.1 (kCVof m_X11_refuse l_X11_113) rfl (by decide) kx_0 (by decide) (by decide) rfl rfl (by show (0 : Nat) ≤ 8; decide) ?_
        refine S_X11_refuse ?_
        refine R_eqs (st2 := [vI 0]) (σ2 := (kup σ 0 0 1)) rfl rfl ?_
        exact R_zreturn e_X11_tray_1.2.2.2.2.2.2.2.1 rfl (Or.inl rfl) h
      · replace h := h.2 q
        refine R_iload_n e_X11_tray_0.2.2.2.2.2.2.2.2.2 3 rfl ?_
        obtain ⟨q11, h⟩ := h
        refine R_if_lt 27 e_X11_tray_1.1 (by decide) q11  (fun q => ?_) (fun q => ?_)
        · replace h := h.1 q
          refine R_aload_n e_X11_tray_1.2.2.2.2.1 0 rfl ?_
          refine R_iconst e_X11_tray_1.2.2.2.2.2.1 ?_
          refine R_callV (mc := 0) (ms := 0) (mc' := 0) (ms' := 0) (M' := M_X11_refuse) (d' := 0) (as := [vI 1]) (st := []) 11 1 e_X11_tray_1.2.2.2.2.2.2.1 (kCVof m_X11_refuse l_X11_113) rfl (by decide) kx_0 (by decide) (by decide) rfl rfl (by show (0 : Nat) ≤ 8; decide) ?_
          refine S_X11_refuse ?_
          refine R_eqs (st2 := [vI 0]) (σ2 := (kup σ 0 0 1)) rfl rfl ?_
          exact R_zreturn e_X11_tray_1.2.2.2.2.2.2.2.1 rfl (Or.inl rfl) h
        · replace h := h.2 q
          refine R_iload_n e_X11_tray_1.2.1 3 rfl ?_
          refine R_bipush e_X11_tray_1.2.2.1 (by decide) ?_
          refine R_icmp_le 33 e_X11_tray_1.2.2.2.1 (by decide) q11 (by decide) (fun q => ?_) (fun q => ?_)
          · replace h := h.1 q
            refine R_aload_n e_X11_tray_1.2.2.2.2.2.2.2.2.1 0 rfl ?_
            refine R_getA 11 3 1 e_X11_tray_1.2.2.2.2.2.2.2.2.2 f_X11_22 kx_0 (fun _ _ => rfl) rx_0_3 (by decide) ?_
            refine R_iload_n e_X11_tray_2.1 1 rfl ?_
            obtain ⟨q14, h⟩ := h
            refine R_aald 24 4 (adT l1) e_X11_tray_2.2.1 (by decide) kxa_1 q14 (adT_at q14) (adT_n q14) ?_
            refine R_iload_n e_X11_tray_2.2.2.1 2 rfl ?_
            refine R_iload_n e_X11_tray_2.2.2.2.1 3 rfl ?_
            refine R_callV (mc := 0) (ms := 0) (mc' := 0) (ms' := 0) (M' := M_X10_make) (d' := 0) (as := [vI l2, vI l3]) (st := []) 10 2 e_X11_tray_2.2.2.2.2.1 (kCVof m_X10_make l_X11_116) rfl (by decide) (kT_self (adT_is q14)) (by decide) (by decide) rfl rfl (by show (0 : Nat) ≤ 8; decide) ?_
            refine Run.mono h (fun r15 s16 h => ?_)
            refine R_eqs (st2 := []) rfl rfl ?_
            refine R_aload_n e_X11_tray_2.2.2.2.2.2.1 0 rfl ?_
            refine R_callV (mc := 0) (ms := 0) (mc' := 0) (ms' := 0) (M' := M_X11_grant) (d' := 0) (as := []) (st := []) 11 0 e_X11_tray_2.2.2.2.2.2.2.1 (kCVof m_X11_grant l_X11_120) rfl (by decide) kx_0 (by decide) (by decide) rfl rfl (by show (0 : Nat) ≤ 8; decide) ?_
            refine S_X11_grant ?_
            refine R_eqs (st2 := [vI 1]) (σ2 := (kup s16 0 0 0)) rfl rfl ?_
            exact R_zreturn e_X11_tray_2.2.2.2.2.2.2.2 rfl (Or.inr rfl) h
          · replace h := h.2 q
            refine R_aload_n e_X11_tray_1.2.2.2.2.1 0 rfl ?_
            refine R_iconst e_X11_tray_1.2.2.2.2.2.1 ?_
            refine R_callV (mc := 0) (ms := 0) (mc' := 0) (ms' := 0) (M' := M_X11_refuse) (d' := 0) (as := [vI 1]) (st := []) 11 1 e_X11_tray_1.2.2.2.2.2.2.1 (kCVof m_X11_refuse l_X11_113) rfl (by decide) kx_0 (by decide) (by decide) rfl rfl (by show (0 : Nat) ≤ 8; decide) ?_
            refine S_X11_refuse ?_
            refine R_eqs (st2 := [vI 0]) (σ2 := (kup σ 0 0 1)) rfl rfl ?_
            exact R_zreturn e_X11_tray_1.2.2.2.2.2.2.2.1 rfl (Or.inl rfl) h
/-! KiteLand.write(IIJ)Z -/
theorem e_X11_write_0 : decode cX11_write 0 = .ok (.aload_n 0, 1) ∧ decode cX11_write 1 = .ok (.iload_n 1, 1) ∧ decode cX11_write 2 = .ok (.iload_n 2, 1) ∧ decode cX11_write 3 = .ok (.invokevirtual 124, 3) ∧ decode cX11_write 6 = .ok (.istore 5, 2) ∧ decode cX11_write 8 = .ok (.iload 5, 2) ∧ decode cX11_write 10 = .ok (.ifCond .eq 10, 3) ∧ decode cX11_write 13 = .ok (.aload_n 0, 1) ∧ decode cX11_write 14 = .ok (.iload 5, 2) ∧ decode cX11_write 16 = .ok (.invokevirtual 113, 3) := by decide +kernel
theorem e_X11_write_1 : decode cX11_write 19 = .ok (.ireturn, 1) ∧ decode cX11_write 20 = .ok (.aload_n 0, 1) ∧ decode cX11_write 21 = .ok (.getfield 22, 3) ∧ decode cX11_write 24 = .ok (.iload_n 1, 1) ∧ decode cX11_write 25 = .ok (.aaload, 1) ∧ decode cX11_write 26 = .ok (.iload_n 2, 1) ∧ decode cX11_write 27 = .ok (.lload_n 3, 1) ∧ decode cX11_write 28 = .ok (.invokevirtual 128, 3) ∧ decode cX11_write 31 = .ok (.aload_n 0, 1) ∧ decode cX11_write 32 = .ok (.invokevirtual 120, 3) := by decide +kernel
theorem e_X11_write_2 : decode cX11_write 35 = .ok (.ireturn, 1) := by decide +kernel
theorem S_X11_write {G : Kg} {σ : Kmem} {Q : Int → Kmem → Prop} {l1 l2 l3 : Int}  (h : Run G WX M_X11_placeStatus 1 0 0 [vA G 0, vI l1, vI l2] σ (fun r1 s2 => (rI r1) ∧ ((r1 = 0 → (0 ≤ l1 ∧ l1 < 4) ∧ Run G WX M_X10_put 0 0 0 [vA G (adT l1), vI l2, vL l3] s2 (fun r5 s6 => Q 1 (kup s6 0 0 0))) ∧ (r1 ≠ 0 → Q 0 (kup s2 0 0 r1))))) : Run G WX M_X11_write 2 0 0 [vA G 0, vI l1, vI l2, vL l3] σ Q := by
  refine Run.of (by decide +kernel) (by show (5 : Nat) ≤ 6; decide) ?_
  show Ex G WX M_X11_write 2 0 0 0 [(0, vA G 0), (1, vI l1), (2, vI l2), (3, vL l3)] [] σ Q
  refine R_aload_n e_X11_write_0.1 0 rfl ?_
  refine R_iload_n e_X11_write_0.2.1 1 rfl ?_
  refine R_iload_n e_X11_write_0.2.2.1 2 rfl ?_
  refine R_callV (mc := 0) (ms := 0) (mc' := 0) (ms' := 0) (M' := M_X11_placeStatus) (d' := 1) (as := [vI l1, vI l2]) (st := []) 11 2 e_X11_write_0.2.2.2.1 (kCVof m_X11_placeStatus l_X11_124) rfl (by decide) kx_0 (by decide) (by decide) rfl rfl (by show (0 : Nat) ≤ 8; decide) ?_
  refine Run.mono h (fun r1 s2 h => ?_)
  refine R_eqs (st2 := [vI r1]) rfl rfl ?_
  refine R_istore (ls2 := [(5, vI r1), (0, vA G 0), (1, vI l1), (2, vI l2), (3, vL l3)]) e_X11_write_0.2.2.2.2.1 (by decide) rfl ?_
  refine R_iload e_X11_write_0.2.2.2.2.2.1 0 rfl ?_
  obtain ⟨q3, h⟩ := h
  refine R_if_eq 20 e_X11_write_0.2.2.2.2.2.2.1 (by decide) q3  (fun q => ?_) (fun q => ?_)
  · replace h := h.1 q
    refine R_aload_n e_X11_write_1.2.1 1 rfl ?_
    refine R_getA 11 3 1 e_X11_write_1.2.2.1 f_X11_22 kx_0 (fun _ _ => rfl) rx_0_3 (by decide) ?_
    refine R_iload_n e_X11_write_1.2.2.2.1 2 rfl ?_
    obtain ⟨q4, h⟩ := h
    refine R_aald 24 4 (adT l1) e_X11_write_1.2.2.2.2.1 (by decide) kxa_1 q4 (adT_at q4) (adT_n q4) ?_
    refine R_iload_n e_X11_write_1.2.2.2.2.2.1 3 rfl ?_
    refine R_lload_n e_X11_write_1.2.2.2.2.2.2.1 4 rfl ?_
    refine R_callV (mc := 0) (ms := 0) (mc' := 0) (ms' := 0) (M' := M_X10_put) (d' := 0) (as := [vI l2, vL l3]) (st := []) 10 2 e_X11_write_1.2.2.2.2.2.2.2.1 (kCVof m_X10_put l_X11_128) rfl (by decide) (kT_self (adT_is q4)) (by decide) (by decide) rfl rfl (by show (0 : Nat) ≤ 8; decide) ?_
    refine Run.mono h (fun r5 s6 h => ?_)
    refine R_eqs (st2 := []) rfl rfl ?_
    refine R_aload_n e_X11_write_1.2.2.2.2.2.2.2.2.1 1 rfl ?_
    refine R_callV (mc := 0) (ms := 0) (mc' := 0) (ms' := 0) (M' := M_X11_grant) (d' := 0) (as := []) (st := []) 11 0 e_X11_write_1.2.2.2.2.2.2.2.2.2 (kCVof m_X11_grant l_X11_120) rfl (by decide) kx_0 (by decide) (by decide) rfl rfl (by show (0 : Nat) ≤ 8; decide) ?_
    refine S_X11_grant ?_
    refine R_eqs (st2 := [vI 1]) (σ2 := (kup s6 0 0 0)) rfl rfl ?_
    exact R_zreturn e_X11_write_2 rfl (Or.inr rfl) h
  · replace h := h.2 q
    refine R_aload_n e_X11_write_0.2.2.2.2.2.2.2.1 1 rfl ?_
    refine R_iload e_X11_write_0.2.2.2.2.2.2.2.2.1 0 rfl ?_
    refine R_callV (mc := 0) (ms := 0) (mc' := 0) (ms' := 0) (M' := M_X11_refuse) (d' := 0) (as := [vI r1]) (st := []) 11 1 e_X11_write_0.2.2.2.2.2.2.2.2.2 (kCVof m_X11_refuse l_X11_113) rfl (by decide) kx_0 (by decide) (by decide) rfl rfl (by show (0 : Nat) ≤ 8; decide) ?_
    refine S_X11_refuse ?_
    refine R_eqs (st2 := [vI 0]) (σ2 := (kup s2 0 0 r1)) rfl rfl ?_
    exact R_zreturn e_X11_write_1.1 rfl (Or.inl rfl) h
/-! KiteLand.read(II)J -/
theorem e_X11_read_0 : decode cX11_read 0 = .ok (.aload_n 0, 1) ∧ decode cX11_read 1 = .ok (.iload_n 1, 1) ∧ decode cX11_read 2 = .ok (.iload_n 2, 1) ∧ decode cX11_read 3 = .ok (.invokevirtual 124, 3) ∧ decode cX11_read 6 = .ok (.istore_n 3, 1) ∧ decode cX11_read 7 = .ok (.iload_n 3, 1) ∧ decode cX11_read 8 = .ok (.ifCond .eq 10, 3) ∧ decode cX11_read 11 = .ok (.aload_n 0, 1) ∧ decode cX11_read 12 = .ok (.iload_n 3, 1) ∧ decode cX11_read 13 = .ok (.invokevirtual 132, 3) := by decide +kernel
theorem e_X11_read_1 : decode cX11_read 16 = .ok (.i2l, 1) ∧ decode cX11_read 17 = .ok (.lreturn, 1) ∧ decode cX11_read 18 = .ok (.aload_n 0, 1) ∧ decode cX11_read 19 = .ok (.iconst 0, 1) ∧ decode cX11_read 20 = .ok (.putfield 9, 3) ∧ decode cX11_read 23 = .ok (.aload_n 0, 1) ∧ decode cX11_read 24 = .ok (.getfield 22, 3) ∧ decode cX11_read 27 = .ok (.iload_n 1, 1) ∧ decode cX11_read 28 = .ok (.aaload, 1) ∧ decode cX11_read 29 = .ok (.getfield 136, 3) := by decide +kernel
theorem e_X11_read_2 : decode cX11_read 32 = .ok (.iload_n 2, 1) ∧ decode cX11_read 33 = .ok (.laload, 1) ∧ decode cX11_read 34 = .ok (.lreturn, 1) := by decide +kernel
theorem S_X11_read {G : Kg} {σ : Kmem} {Q : Int → Kmem → Prop} {l1 l2 : Int}  (h : Run G WX M_X11_placeStatus 1 0 0 [vA G 0, vI l1, vI l2] σ (fun r1 s2 => (rI r1) ∧ ((r1 = 0 → (0 ≤ l1 ∧ l1 < 4) ∧ (0 ≤ l2 ∧ l2 < 60) ∧ Q ((kup s2 0 0 0) (adT l1 + 1) l2) (kup s2 0 0 0)) ∧ (r1 ≠ 0 → Q (-1) (kup s2 0 0 r1))))) : Run G WX M_X11_read 2 0 0 [vA G 0, vI l1, vI l2] σ Q := by
  refine Run.of (by decide +kernel) (by show (3 : Nat) ≤ 4; decide) ?_
  show Ex G WX M_X11_read 2 0 0 0 [(0, vA G 0), (1, vI l1), (2, vI l2)] [] σ Q
  refine R_aload_n e_X11_read_0.1 0 rfl ?_
  refine R_iload_n e_X11_read_0.2.1 1 rfl ?_
  refine R_iload_n e_X11_read_0.2.2.1 2 rfl ?_
  refine R_callV (mc := 0) (ms := 0) (mc' := 0) (ms' := 0) (M' := M_X11_placeStatus) (d' := 1) (as := [vI l1, vI l2]) (st := []) 11 2 e_X11_read_0.2.2.2.1 (kCVof m_X11_placeStatus l_X11_124) rfl (by decide) kx_0 (by decide) (by decide) rfl rfl (by show (0 : Nat) ≤ 8; decide) ?_
  refine Run.mono h (fun r1 s2 h => ?_)
  refine R_eqs (st2 := [vI r1]) rfl rfl ?_
  refine R_istore_n (ls2 := [(3, vI r1), (0, vA G 0), (1, vI l1), (2, vI l2)]) e_X11_read_0.2.2.2.2.1 (by decide) rfl ?_
  refine R_iload_n e_X11_read_0.2.2.2.2.2.1 0 rfl ?_
  obtain ⟨q3, h⟩ := h
  refine R_if_eq 18 e_X11_read_0.2.2.2.2.2.2.1 (by decide) q3  (fun q => ?_) (fun q => ?_)
  · replace h := h.1 q
    refine R_aload_n e_X11_read_1.2.2.1 1 rfl ?_
    refine R_iconst e_X11_read_1.2.2.2.1 ?_
    refine R_putI 11 0 0 WX_ok e_X11_read_1.2.2.2.2.1 f_X11_9 kx_0 rfl rfl rfl ?_
    refine R_aload_n e_X11_read_1.2.2.2.2.2.1 1 rfl ?_
    refine R_getA 11 3 1 e_X11_read_1.2.2.2.2.2.2.1 f_X11_22 kx_0 (fun _ _ => rfl) rx_0_3 (by decide) ?_
    refine R_iload_n e_X11_read_1.2.2.2.2.2.2.2.1 2 rfl ?_
    obtain ⟨q4, h⟩ := h
    refine R_aald 24 4 (adT l1) e_X11_read_1.2.2.2.2.2.2.2.2.1 (by decide) kxa_1 q4 (adT_at q4) (adT_n q4) ?_
    refine R_getA 10 3 (adT l1 + 1) e_X11_read_1.2.2.2.2.2.2.2.2.2 f_X11_136 (kT_self (adT_is q4)) (fun _ _ => rfl) (kT_r3 (adT_is q4)) (kT_n1 (adT_is q4)) ?_
    refine R_iload_n e_X11_read_2.1 3 rfl ?_
    obtain ⟨q5, h⟩ := h
    refine R_lald 60 e_X11_read_2.2.1 (kT_nums (adT_is q4)) q5 ?_
    exact R_lreturn e_X11_read_2.2.2 rfl h
  · replace h := h.2 q
    refine R_aload_n e_X11_read_0.2.2.2.2.2.2.2.1 1 rfl ?_
    refine R_iload_n e_X11_read_0.2.2.2.2.2.2.2.2.1 0 rfl ?_
    refine R_callV (mc := 0) (ms := 0) (mc' := 0) (ms' := 0) (M' := M_X11_deny) (d' := 0) (as := [vI r1]) (st := []) 11 1 e_X11_read_0.2.2.2.2.2.2.2.2.2 (kCVof m_X11_deny l_X11_132) rfl (by decide) kx_0 (by decide) (by decide) rfl rfl (by show (0 : Nat) ≤ 8; decide) ?_
    refine S_X11_deny ?_
    refine R_eqs (st2 := [vI (-1)]) (σ2 := (kup s2 0 0 r1)) rfl rfl ?_
    refine R_i2l e_X11_read_1.1 (by decide) ?_
    exact R_lreturn e_X11_read_1.2.1 rfl h
/-! KiteLand.pour(IIIII)Z -/
theorem e_X11_pour_0 : decode cX11_pour 0 = .ok (.aload_n 0, 1) ∧ decode cX11_pour 1 = .ok (.iload_n 1, 1) ∧ decode cX11_pour 2 = .ok (.invokevirtual 109, 3) ∧ decode cX11_pour 5 = .ok (.ifCond .eq 25, 3) ∧ decode cX11_pour 8 = .ok (.aload_n 0, 1) ∧ decode cX11_pour 9 = .ok (.iload_n 3, 1) ∧ decode cX11_pour 10 = .ok (.invokevirtual 109, 3) ∧ decode cX11_pour 13 = .ok (.ifCond .eq 17, 3) ∧ decode cX11_pour 16 = .ok (.iload_n 2, 1) ∧ decode cX11_pour 17 = .ok (.ifCond .lt 13, 3) := by decide +kernel
theorem e_X11_pour_1 : decode cX11_pour 20 = .ok (.iload 4, 2) ∧ decode cX11_pour 22 = .ok (.ifCond .lt 8, 3) ∧ decode cX11_pour 25 = .ok (.iload 5, 2) ∧ decode cX11_pour 27 = .ok (.ifCond .ge 9, 3) ∧ decode cX11_pour 30 = .ok (.aload_n 0, 1) ∧ decode cX11_pour 31 = .ok (.iconst 1, 1) ∧ decode cX11_pour 32 = .ok (.invokevirtual 113, 3) ∧ decode cX11_pour 35 = .ok (.ireturn, 1) ∧ decode cX11_pour 36 = .ok (.aload_n 0, 1) ∧ decode cX11_pour 37 = .ok (.getfield 22, 3) := by decide +kernel
theorem e_X11_pour_2 : decode cX11_pour 40 = .ok (.iload_n 1, 1) ∧ decode cX11_pour 41 = .ok (.aaload, 1) ∧ decode cX11_pour 42 = .ok (.astore 6, 2) ∧ decode cX11_pour 44 = .ok (.aload_n 0, 1) ∧ decode cX11_pour 45 = .ok (.getfield 22, 3) ∧ decode cX11_pour 48 = .ok (.iload_n 3, 1) ∧ decode cX11_pour 49 = .ok (.aaload, 1) ∧ decode cX11_pour 50 = .ok (.astore 7, 2) ∧ decode cX11_pour 52 = .ok (.aload 6, 2) ∧ decode cX11_pour 54 = .ok (.getfield 140, 3) := by decide +kernel
theorem e_X11_pour_3 : decode cX11_pour 57 = .ok (.ifCond .eq 11, 3) ∧ decode cX11_pour 60 = .ok (.aload 7, 2) ∧ decode cX11_pour 62 = .ok (.getfield 140, 3) ∧ decode cX11_pour 65 = .ok (.ifCond .ne 9, 3) ∧ decode cX11_pour 68 = .ok (.aload_n 0, 1) ∧ decode cX11_pour 69 = .ok (.iconst 2, 1) ∧ decode cX11_pour 70 = .ok (.invokevirtual 113, 3) ∧ decode cX11_pour 73 = .ok (.ireturn, 1) ∧ decode cX11_pour 74 = .ok (.aload 6, 2) ∧ decode cX11_pour 76 = .ok (.getfield 144, 3) := by decide +kernel
theorem e_X11_pour_4 : decode cX11_pour 79 = .ok (.aload 7, 2) ∧ decode cX11_pour 81 = .ok (.getfield 144, 3) ∧ decode cX11_pour 84 = .ok (.if_icmp .eq 10, 3) ∧ decode cX11_pour 87 = .ok (.aload_n 0, 1) ∧ decode cX11_pour 88 = .ok (.bipush 8, 2) ∧ decode cX11_pour 90 = .ok (.invokevirtual 113, 3) ∧ decode cX11_pour 93 = .ok (.ireturn, 1) ∧ decode cX11_pour 94 = .ok (.iload 5, 2) ∧ decode cX11_pour 96 = .ok (.aload 6, 2) ∧ decode cX11_pour 98 = .ok (.getfield 147, 3) := by decide +kernel
theorem e_X11_pour_5 : decode cX11_pour 101 = .ok (.iload_n 2, 1) ∧ decode cX11_pour 102 = .ok (.isub, 1) ∧ decode cX11_pour 103 = .ok (.if_icmp .gt 16, 3) ∧ decode cX11_pour 106 = .ok (.iload 5, 2) ∧ decode cX11_pour 108 = .ok (.aload 7, 2) ∧ decode cX11_pour 110 = .ok (.getfield 147, 3) ∧ decode cX11_pour 113 = .ok (.iload 4, 2) ∧ decode cX11_pour 115 = .ok (.isub, 1) ∧ decode cX11_pour 116 = .ok (.if_icmp .le 9, 3) ∧ decode cX11_pour 119 = .ok (.aload_n 0, 1) := by decide +kernel
theorem e_X11_pour_6 : decode cX11_pour 120 = .ok (.iconst 3, 1) ∧ decode cX11_pour 121 = .ok (.invokevirtual 113, 3) ∧ decode cX11_pour 124 = .ok (.ireturn, 1) ∧ decode cX11_pour 125 = .ok (.aload 6, 2) ∧ decode cX11_pour 127 = .ok (.getfield 136, 3) ∧ decode cX11_pour 130 = .ok (.iload_n 2, 1) ∧ decode cX11_pour 131 = .ok (.aload 7, 2) ∧ decode cX11_pour 133 = .ok (.getfield 136, 3) ∧ decode cX11_pour 136 = .ok (.iload 4, 2) ∧ decode cX11_pour 138 = .ok (.iload 5, 2) := by decide +kernel
theorem e_X11_pour_7 : decode cX11_pour 140 = .ok (.invokestatic 150, 3) ∧ decode cX11_pour 143 = .ok (.aload_n 0, 1) ∧ decode cX11_pour 144 = .ok (.invokevirtual 120, 3) ∧ decode cX11_pour 147 = .ok (.ireturn, 1) := by decide +kernel
theorem S_X11_pour {G : Kg} {σ : Kmem} {Q : Int → Kmem → Prop} {l1 l2 l3 l4 l5 : Int}  (h : (rI (l1)) ∧ ((¬ ((0 : Int) ≤ l1 ∧ (l1 : Int) < 4) → Q 0 (kup σ 0 0 1)) ∧ (((0 : Int) ≤ l1 ∧ (l1 : Int) < 4) → (rI (l3)) ∧ ((¬ ((0 : Int) ≤ l3 ∧ (l3 : Int) < 4) → Q 0 (kup σ 0 0 1)) ∧ (((0 : Int) ≤ l3 ∧ (l3 : Int) < 4) → (rI l2) ∧ ((l2 < 0 → Q 0 (kup σ 0 0 1)) ∧ (0 ≤ l2 → (rI l4) ∧ ((l4 < 0 → Q 0 (kup σ 0 0 1)) ∧ (0 ≤ l4 → (rI l5) ∧ ((0 ≤ l5 → (0 ≤ l1 ∧ l1 < 4) ∧ (0 ≤ l3 ∧ l3 < 4) ∧ (rI (σ (adT l1) 0)) ∧ ((σ (adT l1) 0 = 0 → Q 0 (kup σ 0 0 2)) ∧ (σ (adT l1) 0 ≠ 0 → (rI (σ (adT l3) 0)) ∧ ((σ (adT l3) 0 ≠ 0 → (rI (σ (adT l1) 1)) ∧ (rI (σ (adT l3) 1)) ∧ ((σ (adT l1) 1 = σ (adT l3) 1 → (rI ((σ (adT l1) 2) - l2)) ∧ (((σ (adT l1) 2) - l2 < l5 → Q 0 (kup σ 0 0 3)) ∧ (l5 ≤ (σ (adT l1) 2) - l2 → (rI ((σ (adT l3) 2) - l4)) ∧ ((l5 ≤ (σ (adT l3) 2) - l4 → (((0 : Int) ≤ l2 ∧ (0 : Int) ≤ l4 ∧ (0 : Int) ≤ l5) ∧ (l2 : Int) + l5 ≤ 60 ∧ (l4 : Int) + l5 ≤ 60) ∧ Q 1 (kup (kcpy σ (adT l1 + 1) l2 (adT l3 + 1) l4 l5) 0 0 0)) ∧ ((σ (adT l3) 2) - l4 < l5 → Q 0 (kup σ 0 0 3)))))) ∧ (σ (adT l1) 1 ≠ σ (adT l3) 1 → Q 0 (kup σ 0 0 8)))) ∧ (σ (adT l3) 0 = 0 → Q 0 (kup σ 0 0 2)))))) ∧ (l5 < 0 → Q 0 (kup σ 0 0 1)))))))))))) : Run G WX M_X11_pour 1 0 0 [vA G 0, vI l1, vI l2, vI l3, vI l4, vI l5] σ Q := by
  refine Run.of (by decide +kernel) (by show (6 : Nat) ≤ 8; decide) ?_
  show Ex G WX M_X11_pour 1 0 0 0 [(0, vA G 0), (1, vI l1), (2, vI l2), (3, vI l3), (4, vI l4), (5, vI l5)] [] σ Q
  refine R_aload_n e_X11_pour_0.1 0 rfl ?_
  refine R_iload_n e_X11_pour_0.2.1 1 rfl ?_
  obtain ⟨q3, h⟩ := h
  refine R_callV (mc := 0) (ms := 0) (mc' := 0) (ms' := 0) (M' := M_X11_isTray) (d' := 0) (as := [vI l1]) (st := []) 11 1 e_X11_pour_0.2.2.1 (kCVof m_X11_isTray l_X11_109) rfl (by decide) kx_0 (by decide) (by decide) rfl rfl (by show (0 : Nat) ≤ 8; decide) ?_
  refine Run.mono (P_X11_isTray q3) (fun rr ss e => ?_)
  obtain ⟨e1, e2⟩ := e
  refine R_eqs (st2 := [vI (kb ((0 : Int) ≤ l1 ∧ (l1 : Int) < 4))]) (σ2 := σ) (by rw [e1]; rfl) e2 ?_
  refine R_if_eq 30 e_X11_pour_0.2.2.2.1 (by decide) (kb_r _) (fun q => ?_) (fun q => ?_)
  · replace h := h.1 (kb_f q)
    refine R_aload_n e_X11_pour_1.2.2.2.2.1 0 rfl ?_
    refine R_iconst e_X11_pour_1.2.2.2.2.2.1 ?_
    refine R_callV (mc := 0) (ms := 0) (mc' := 0) (ms' := 0) (M' := M_X11_refuse) (d' := 0) (as := [vI 1]) (st := []) 11 1 e_X11_pour_1.2.2.2.2.2.2.1 (kCVof m_X11_refuse l_X11_113) rfl (by decide) kx_0 (by decide) (by decide) rfl rfl (by show (0 : Nat) ≤ 8; decide) ?_
    refine S_X11_refuse ?_
    refine R_eqs (st2 := [vI 0]) (σ2 := (kup σ 0 0 1)) rfl rfl ?_
    exact R_zreturn e_X11_pour_1.2.2.2.2.2.2.2.1 rfl (Or.inl rfl) h
  · replace h := h.2 (kb_t q)
    refine R_aload_n e_X11_pour_0.2.2.2.2.1 0 rfl ?_
    refine R_iload_n e_X11_pour_0.2.2.2.2.2.1 3 rfl ?_
    obtain ⟨q8, h⟩ := h
    refine R_callV (mc := 0) (ms := 0) (mc' := 0) (ms' := 0) (M' := M_X11_isTray) (d' := 0) (as := [vI l3]) (st := []) 11 1 e_X11_pour_0.2.2.2.2.2.2.1 (kCVof m_X11_isTray l_X11_109) rfl (by decide) kx_0 (by decide) (by decide) rfl rfl (by show (0 : Nat) ≤ 8; decide) ?_
    refine Run.mono (P_X11_isTray q8) (fun rr ss e => ?_)
    obtain ⟨e1, e2⟩ := e
    refine R_eqs (st2 := [vI (kb ((0 : Int) ≤ l3 ∧ (l3 : Int) < 4))]) (σ2 := σ) (by rw [e1]; rfl) e2 ?_
    refine R_if_eq 30 e_X11_pour_0.2.2.2.2.2.2.2.1 (by decide) (kb_r _) (fun q => ?_) (fun q => ?_)
    · replace h := h.1 (kb_f q)
      refine R_aload_n e_X11_pour_1.2.2.2.2.1 0 rfl ?_
      refine R_iconst e_X11_pour_1.2.2.2.2.2.1 ?_
      refine R_callV (mc := 0) (ms := 0) (mc' := 0) (ms' := 0) (M' := M_X11_refuse) (d' := 0) (as := [vI 1]) (st := []) 11 1 e_X11_pour_1.2.2.2.2.2.2.1 (kCVof m_X11_refuse l_X11_113) rfl (by decide) kx_0 (by decide) (by decide) rfl rfl (by show (0 : Nat) ≤ 8; decide) ?_
      refine S_X11_refuse ?_
      refine R_eqs (st2 := [vI 0]) (σ2 := (kup σ 0 0 1)) rfl rfl ?_
      exact R_zreturn e_X11_pour_1.2.2.2.2.2.2.2.1 rfl (Or.inl rfl) h
    · replace h := h.2 (kb_t q)
      refine R_iload_n e_X11_pour_0.2.2.2.2.2.2.2.2.1 2 rfl ?_
      obtain ⟨q11, h⟩ := h
      refine R_if_lt 30 e_X11_pour_0.2.2.2.2.2.2.2.2.2 (by decide) q11  (fun q => ?_) (fun q => ?_)
      · replace h := h.1 q
        refine R_aload_n e_X11_pour_1.2.2.2.2.1 0 rfl ?_
        refine R_iconst e_X11_pour_1.2.2.2.2.2.1 ?_
        refine R_callV (mc := 0) (ms := 0) (mc' := 0) (ms' := 0) (M' := M_X11_refuse) (d' := 0) (as := [vI 1]) (st := []) 11 1 e_X11_pour_1.2.2.2.2.2.2.1 (kCVof m_X11_refuse l_X11_113) rfl (by decide) kx_0 (by decide) (by decide) rfl rfl (by show (0 : Nat) ≤ 8; decide) ?_
        refine S_X11_refuse ?_
        refine R_eqs (st2 := [vI 0]) (σ2 := (kup σ 0 0 1)) rfl rfl ?_
        exact R_zreturn e_X11_pour_1.2.2.2.2.2.2.2.1 rfl (Or.inl rfl) h
      · replace h := h.2 q
        refine R_iload e_X11_pour_1.1 4 rfl ?_
        obtain ⟨q14, h⟩ := h
        refine R_if_lt 30 e_X11_pour_1.2.1 (by decide) q14  (fun q => ?_) (fun q => ?_)
        · replace h := h.1 q
          refine R_aload_n e_X11_pour_1.2.2.2.2.1 0 rfl ?_
          refine R_iconst e_X11_pour_1.2.2.2.2.2.1 ?_
          refine R_callV (mc := 0) (ms := 0) (mc' := 0) (ms' := 0) (M' := M_X11_refuse) (d' := 0) (as := [vI 1]) (st := []) 11 1 e_X11_pour_1.2.2.2.2.2.2.1 (kCVof m_X11_refuse l_X11_113) rfl (by decide) kx_0 (by decide) (by decide) rfl rfl (by show (0 : Nat) ≤ 8; decide) ?_
          refine S_X11_refuse ?_
          refine R_eqs (st2 := [vI 0]) (σ2 := (kup σ 0 0 1)) rfl rfl ?_
          exact R_zreturn e_X11_pour_1.2.2.2.2.2.2.2.1 rfl (Or.inl rfl) h
        · replace h := h.2 q
          refine R_iload e_X11_pour_1.2.2.1 5 rfl ?_
          obtain ⟨q17, h⟩ := h
          refine R_if_ge 36 e_X11_pour_1.2.2.2.1 (by decide) q17  (fun q => ?_) (fun q => ?_)
          · replace h := h.1 q
            refine R_aload_n e_X11_pour_1.2.2.2.2.2.2.2.2.1 0 rfl ?_
            refine R_getA 11 3 1 e_X11_pour_1.2.2.2.2.2.2.2.2.2 f_X11_22 kx_0 (fun _ _ => rfl) rx_0_3 (by decide) ?_
            refine R_iload_n e_X11_pour_2.1 1 rfl ?_
            obtain ⟨q18, h⟩ := h
            refine R_aald 24 4 (adT l1) e_X11_pour_2.2.1 (by decide) kxa_1 q18 (adT_at q18) (adT_n q18) ?_
            refine R_astore (ls2 := [(6, vA G (adT l1)), (0, vA G 0), (1, vI l1), (2, vI l2), (3, vI l3), (4, vI l4), (5, vI l5)]) e_X11_pour_2.2.2.1 (by decide) rfl ?_
            refine R_aload_n e_X11_pour_2.2.2.2.1 1 rfl ?_
            refine R_getA 11 3 1 e_X11_pour_2.2.2.2.2.1 f_X11_22 kx_0 (fun _ _ => rfl) rx_0_3 (by decide) ?_
            refine R_iload_n e_X11_pour_2.2.2.2.2.2.1 4 rfl ?_
            obtain ⟨q19, h⟩ := h
            refine R_aald 24 4 (adT l3) e_X11_pour_2.2.2.2.2.2.2.1 (by decide) kxa_1 q19 (adT_at q19) (adT_n q19) ?_
            refine R_astore (ls2 := [(7, vA G (adT l3)), (6, vA G (adT l1)), (0, vA G 0), (1, vI l1), (2, vI l2), (3, vI l3), (4, vI l4), (5, vI l5)]) e_X11_pour_2.2.2.2.2.2.2.2.1 (by decide) rfl ?_
            refine R_aload e_X11_pour_2.2.2.2.2.2.2.2.2.1 1 rfl ?_
            refine R_getI 10 0 0 e_X11_pour_2.2.2.2.2.2.2.2.2.2 f_X11_140 (kT_self (adT_is q18)) (fun _ _ => rfl) rfl ?_
            obtain ⟨q20, h⟩ := h
            refine R_if_eq 68 e_X11_pour_3.1 (by decide) q20  (fun q => ?_) (fun q => ?_)
            · replace h := h.1 q
              refine R_aload_n e_X11_pour_3.2.2.2.2.1 2 rfl ?_
              refine R_iconst e_X11_pour_3.2.2.2.2.2.1 ?_
              refine R_callV (mc := 0) (ms := 0) (mc' := 0) (ms' := 0) (M' := M_X11_refuse) (d' := 0) (as := [vI 2]) (st := []) 11 1 e_X11_pour_3.2.2.2.2.2.2.1 (kCVof m_X11_refuse l_X11_113) rfl (by decide) kx_0 (by decide) (by decide) rfl rfl (by show (0 : Nat) ≤ 8; decide) ?_
              refine S_X11_refuse ?_
              refine R_eqs (st2 := [vI 0]) (σ2 := (kup σ 0 0 2)) rfl rfl ?_
              exact R_zreturn e_X11_pour_3.2.2.2.2.2.2.2.1 rfl (Or.inl rfl) h
            · replace h := h.2 q
              refine R_aload e_X11_pour_3.2.1 0 rfl ?_
              refine R_getI 10 0 0 e_X11_pour_3.2.2.1 f_X11_140 (kT_self (adT_is q19)) (fun _ _ => rfl) rfl ?_
              obtain ⟨q23, h⟩ := h
              refine R_if_ne 74 e_X11_pour_3.2.2.2.1 (by decide) q23  (fun q => ?_) (fun q => ?_)
              · replace h := h.1 q
                refine R_aload e_X11_pour_3.2.2.2.2.2.2.2.2.1 1 rfl ?_
                refine R_getI 10 1 1 e_X11_pour_3.2.2.2.2.2.2.2.2.2 f_X11_144 (kT_self (adT_is q18)) (fun _ _ => rfl) rfl ?_
                refine R_aload e_X11_pour_4.1 0 rfl ?_
                refine R_getI 10 1 1 e_X11_pour_4.2.1 f_X11_144 (kT_self (adT_is q19)) (fun _ _ => rfl) rfl ?_
                obtain ⟨q24, h⟩ := h
                obtain ⟨q25, h⟩ := h
                refine R_icmp_eq 94 e_X11_pour_4.2.2.1 (by decide) q24 q25 (fun q => ?_) (fun q => ?_)
                · replace h := h.1 q
                  refine R_iload e_X11_pour_4.2.2.2.2.2.2.2.1 7 rfl ?_
                  refine R_aload e_X11_pour_4.2.2.2.2.2.2.2.2.1 1 rfl ?_
                  refine R_getI 10 2 2 e_X11_pour_4.2.2.2.2.2.2.2.2.2 f_X11_147 (kT_self (adT_is q18)) (fun _ _ => rfl) rfl ?_
                  refine R_iload_n e_X11_pour_5.1 4 rfl ?_
                  refine R_isub e_X11_pour_5.2.1 ?_
                  obtain ⟨q26, h⟩ := h
                  refine R_icmp_gt 119 e_X11_pour_5.2.2.1 (by decide) q17 q26 (fun q => ?_) (fun q => ?_)
                  · replace h := h.1 q
                    refine R_aload_n e_X11_pour_5.2.2.2.2.2.2.2.2.2 2 rfl ?_
                    refine R_iconst e_X11_pour_6.1 ?_
                    refine R_callV (mc := 0) (ms := 0) (mc' := 0) (ms' := 0) (M' := M_X11_refuse) (d' := 0) (as := [vI 3]) (st := []) 11 1 e_X11_pour_6.2.1 (kCVof m_X11_refuse l_X11_113) rfl (by decide) kx_0 (by decide) (by decide) rfl rfl (by show (0 : Nat) ≤ 8; decide) ?_
                    refine S_X11_refuse ?_
                    refine R_eqs (st2 := [vI 0]) (σ2 := (kup σ 0 0 3)) rfl rfl ?_
                    exact R_zreturn e_X11_pour_6.2.2.1 rfl (Or.inl rfl) h
                  · replace h := h.2 q
                    refine R_iload e_X11_pour_5.2.2.2.1 7 rfl ?_
                    refine R_aload e_X11_pour_5.2.2.2.2.1 0 rfl ?_
                    refine R_getI 10 2 2 e_X11_pour_5.2.2.2.2.2.1 f_X11_147 (kT_self (adT_is q19)) (fun _ _ => rfl) rfl ?_
                    refine R_iload e_X11_pour_5.2.2.2.2.2.2.1 6 rfl ?_
                    refine R_isub e_X11_pour_5.2.2.2.2.2.2.2.1 ?_
                    obtain ⟨q29, h⟩ := h
                    refine R_icmp_le 125 e_X11_pour_5.2.2.2.2.2.2.2.2.1 (by decide) q17 q29 (fun q => ?_) (fun q => ?_)
                    · replace h := h.1 q
                      refine R_aload e_X11_pour_6.2.2.2.1 1 rfl ?_
                      refine R_getA 10 3 (adT l1 + 1) e_X11_pour_6.2.2.2.2.1 f_X11_136 (kT_self (adT_is q18)) (fun _ _ => rfl) (kT_r3 (adT_is q18)) (kT_n1 (adT_is q18)) ?_
                      refine R_iload_n e_X11_pour_6.2.2.2.2.2.1 4 rfl ?_
                      refine R_aload e_X11_pour_6.2.2.2.2.2.2.1 0 rfl ?_
                      refine R_getA 10 3 (adT l3 + 1) e_X11_pour_6.2.2.2.2.2.2.2.1 f_X11_136 (kT_self (adT_is q19)) (fun _ _ => rfl) (kT_r3 (adT_is q19)) (kT_n1 (adT_is q19)) ?_
                      refine R_iload e_X11_pour_6.2.2.2.2.2.2.2.2.1 6 rfl ?_
                      refine R_iload e_X11_pour_6.2.2.2.2.2.2.2.2.2 7 rfl ?_
                      obtain ⟨q30, h⟩ := h
                      refine R_copyL 60 60 rfl WX_rd e_X11_pour_7.1 (kT_nums (adT_is q18)) (kT_nums (adT_is q19)) q30 l_cp_X11_150 (by decide) (by show (0 : Nat) ≤ 8; decide) ?_
                      refine R_aload_n e_X11_pour_7.2.1 2 rfl ?_
                      refine R_callV (mc := 0) (ms := 0) (mc' := 0) (ms' := 0) (M' := M_X11_grant) (d' := 0) (as := []) (st := []) 11 0 e_X11_pour_7.2.2.1 (kCVof m_X11_grant l_X11_120) rfl (by decide) kx_0 (by decide) (by decide) rfl rfl (by show (0 : Nat) ≤ 8; decide) ?_
                      refine S_X11_grant ?_
                      refine R_eqs (st2 := [vI 1]) (σ2 := (kup (kcpy σ (adT l1 + 1) l2 (adT l3 + 1) l4 l5) 0 0 0)) rfl rfl ?_
                      exact R_zreturn e_X11_pour_7.2.2.2 rfl (Or.inr rfl) h
                    · replace h := h.2 q
                      refine R_aload_n e_X11_pour_5.2.2.2.2.2.2.2.2.2 2 rfl ?_
                      refine R_iconst e_X11_pour_6.1 ?_
                      refine R_callV (mc := 0) (ms := 0) (mc' := 0) (ms' := 0) (M' := M_X11_refuse) (d' := 0) (as := [vI 3]) (st := []) 11 1 e_X11_pour_6.2.1 (kCVof m_X11_refuse l_X11_113) rfl (by decide) kx_0 (by decide) (by decide) rfl rfl (by show (0 : Nat) ≤ 8; decide) ?_
                      refine S_X11_refuse ?_
                      refine R_eqs (st2 := [vI 0]) (σ2 := (kup σ 0 0 3)) rfl rfl ?_
                      exact R_zreturn e_X11_pour_6.2.2.1 rfl (Or.inl rfl) h
                · replace h := h.2 q
                  refine R_aload_n e_X11_pour_4.2.2.2.1 2 rfl ?_
                  refine R_bipush e_X11_pour_4.2.2.2.2.1 (by decide) ?_
                  refine R_callV (mc := 0) (ms := 0) (mc' := 0) (ms' := 0) (M' := M_X11_refuse) (d' := 0) (as := [vI 8]) (st := []) 11 1 e_X11_pour_4.2.2.2.2.2.1 (kCVof m_X11_refuse l_X11_113) rfl (by decide) kx_0 (by decide) (by decide) rfl rfl (by show (0 : Nat) ≤ 8; decide) ?_
                  refine S_X11_refuse ?_
                  refine R_eqs (st2 := [vI 0]) (σ2 := (kup σ 0 0 8)) rfl rfl ?_
                  exact R_zreturn e_X11_pour_4.2.2.2.2.2.2.1 rfl (Or.inl rfl) h
              · replace h := h.2 q
                refine R_aload_n e_X11_pour_3.2.2.2.2.1 2 rfl ?_
                refine R_iconst e_X11_pour_3.2.2.2.2.2.1 ?_
                refine R_callV (mc := 0) (ms := 0) (mc' := 0) (ms' := 0) (M' := M_X11_refuse) (d' := 0) (as := [vI 2]) (st := []) 11 1 e_X11_pour_3.2.2.2.2.2.2.1 (kCVof m_X11_refuse l_X11_113) rfl (by decide) kx_0 (by decide) (by decide) rfl rfl (by show (0 : Nat) ≤ 8; decide) ?_
                refine S_X11_refuse ?_
                refine R_eqs (st2 := [vI 0]) (σ2 := (kup σ 0 0 2)) rfl rfl ?_
                exact R_zreturn e_X11_pour_3.2.2.2.2.2.2.2.1 rfl (Or.inl rfl) h
          · replace h := h.2 q
            refine R_aload_n e_X11_pour_1.2.2.2.2.1 0 rfl ?_
            refine R_iconst e_X11_pour_1.2.2.2.2.2.1 ?_
            refine R_callV (mc := 0) (ms := 0) (mc' := 0) (ms' := 0) (M' := M_X11_refuse) (d' := 0) (as := [vI 1]) (st := []) 11 1 e_X11_pour_1.2.2.2.2.2.2.1 (kCVof m_X11_refuse l_X11_113) rfl (by decide) kx_0 (by decide) (by decide) rfl rfl (by show (0 : Nat) ≤ 8; decide) ?_
            refine S_X11_refuse ?_
            refine R_eqs (st2 := [vI 0]) (σ2 := (kup σ 0 0 1)) rfl rfl ?_
            exact R_zreturn e_X11_pour_1.2.2.2.2.2.2.2.1 rfl (Or.inl rfl) h
/-! KiteLand.feed(IIIII)I -/
theorem e_X11_feed_0 : decode cX11_feed 0 = .ok (.aload_n 0, 1) ∧ decode cX11_feed 1 = .ok (.getfield 30, 3) ∧ decode cX11_feed 4 = .ok (.sipush 880, 3) ∧ decode cX11_feed 7 = .ok (.if_icmp .le 5, 3) ∧ decode cX11_feed 10 = .ok (.iconst (-1), 1) ∧ decode cX11_feed 11 = .ok (.ireturn, 1) ∧ decode cX11_feed 12 = .ok (.aload_n 0, 1) ∧ decode cX11_feed 13 = .ok (.iload_n 1, 1) ∧ decode cX11_feed 14 = .ok (.invokevirtual 156, 3) ∧ decode cX11_feed 17 = .ok (.aload_n 0, 1) := by decide +kernel
theorem e_X11_feed_1 : decode cX11_feed 18 = .ok (.iload_n 2, 1) ∧ decode cX11_feed 19 = .ok (.invokevirtual 156, 3) ∧ decode cX11_feed 22 = .ok (.aload_n 0, 1) ∧ decode cX11_feed 23 = .ok (.iload_n 3, 1) ∧ decode cX11_feed 24 = .ok (.invokevirtual 156, 3) ∧ decode cX11_feed 27 = .ok (.aload_n 0, 1) ∧ decode cX11_feed 28 = .ok (.iload 4, 2) ∧ decode cX11_feed 30 = .ok (.invokevirtual 156, 3) ∧ decode cX11_feed 33 = .ok (.aload_n 0, 1) ∧ decode cX11_feed 34 = .ok (.iload 5, 2) := by decide +kernel
theorem e_X11_feed_2 : decode cX11_feed 36 = .ok (.invokevirtual 156, 3) ∧ decode cX11_feed 39 = .ok (.aload_n 0, 1) ∧ decode cX11_feed 40 = .ok (.getfield 30, 3) ∧ decode cX11_feed 43 = .ok (.ireturn, 1) := by decide +kernel
theorem S_X11_feed {G : Kg} {σ : Kmem} {Q : Int → Kmem → Prop} {l1 l2 l3 l4 l5 : Int}  (h : (rI (σ 0 5)) ∧ ((σ 0 5 ≤ 880 → Run G WX M_X11_putOnTape 0 0 0 [vA G 0, vI l1] σ (fun r2 s3 => Run G WX M_X11_putOnTape 0 0 0 [vA G 0, vI l2] s3 (fun r4 s5 => Run G WX M_X11_putOnTape 0 0 0 [vA G 0, vI l3] s5 (fun r6 s7 => Run G WX M_X11_putOnTape 0 0 0 [vA G 0, vI l4] s7 (fun r8 s9 => Run G WX M_X11_putOnTape 0 0 0 [vA G 0, vI l5] s9 (fun r10 s11 => Q (s11 0 5) s11)))))) ∧ (880 < σ 0 5 → Q (-1) σ))) : Run G WX M_X11_feed 1 0 0 [vA G 0, vI l1, vI l2, vI l3, vI l4, vI l5] σ Q := by
  refine Run.of (by decide +kernel) (by show (6 : Nat) ≤ 6; decide) ?_
  show Ex G WX M_X11_feed 1 0 0 0 [(0, vA G 0), (1, vI l1), (2, vI l2), (3, vI l3), (4, vI l4), (5, vI l5)] [] σ Q
  refine R_aload_n e_X11_feed_0.1 0 rfl ?_
  refine R_getI 11 5 5 e_X11_feed_0.2.1 f_X11_30 kx_0 (fun _ _ => rfl) rfl ?_
  refine R_sipush e_X11_feed_0.2.2.1 (by decide) ?_
  obtain ⟨q1, h⟩ := h
  refine R_icmp_le 12 e_X11_feed_0.2.2.2.1 (by decide) q1 (by decide) (fun q => ?_) (fun q => ?_)
  · replace h := h.1 q
    refine R_aload_n e_X11_feed_0.2.2.2.2.2.2.1 0 rfl ?_
    refine R_iload_n e_X11_feed_0.2.2.2.2.2.2.2.1 1 rfl ?_
    refine R_callV (mc := 0) (ms := 0) (mc' := 0) (ms' := 0) (M' := M_X11_putOnTape) (d' := 0) (as := [vI l1]) (st := []) 11 1 e_X11_feed_0.2.2.2.2.2.2.2.2.1 (kCVof m_X11_putOnTape l_X11_156) rfl (by decide) kx_0 (by decide) (by decide) rfl rfl (by show (0 : Nat) ≤ 8; decide) ?_
    refine Run.mono h (fun r2 s3 h => ?_)
    refine R_eqs (st2 := []) rfl rfl ?_
    refine R_aload_n e_X11_feed_0.2.2.2.2.2.2.2.2.2 0 rfl ?_
    refine R_iload_n e_X11_feed_1.1 2 rfl ?_
    refine R_callV (mc := 0) (ms := 0) (mc' := 0) (ms' := 0) (M' := M_X11_putOnTape) (d' := 0) (as := [vI l2]) (st := []) 11 1 e_X11_feed_1.2.1 (kCVof m_X11_putOnTape l_X11_156) rfl (by decide) kx_0 (by decide) (by decide) rfl rfl (by show (0 : Nat) ≤ 8; decide) ?_
    refine Run.mono h (fun r4 s5 h => ?_)
    refine R_eqs (st2 := []) rfl rfl ?_
    refine R_aload_n e_X11_feed_1.2.2.1 0 rfl ?_
    refine R_iload_n e_X11_feed_1.2.2.2.1 3 rfl ?_
    refine R_callV (mc := 0) (ms := 0) (mc' := 0) (ms' := 0) (M' := M_X11_putOnTape) (d' := 0) (as := [vI l3]) (st := []) 11 1 e_X11_feed_1.2.2.2.2.1 (kCVof m_X11_putOnTape l_X11_156) rfl (by decide) kx_0 (by decide) (by decide) rfl rfl (by show (0 : Nat) ≤ 8; decide) ?_
    refine Run.mono h (fun r6 s7 h => ?_)
    refine R_eqs (st2 := []) rfl rfl ?_
    refine R_aload_n e_X11_feed_1.2.2.2.2.2.1 0 rfl ?_
    refine R_iload e_X11_feed_1.2.2.2.2.2.2.1 4 rfl ?_
    refine R_callV (mc := 0) (ms := 0) (mc' := 0) (ms' := 0) (M' := M_X11_putOnTape) (d' := 0) (as := [vI l4]) (st := []) 11 1 e_X11_feed_1.2.2.2.2.2.2.2.1 (kCVof m_X11_putOnTape l_X11_156) rfl (by decide) kx_0 (by decide) (by decide) rfl rfl (by show (0 : Nat) ≤ 8; decide) ?_
    refine Run.mono h (fun r8 s9 h => ?_)
    refine R_eqs (st2 := []) rfl rfl ?_
    refine R_aload_n e_X11_feed_1.2.2.2.2.2.2.2.2.1 0 rfl ?_
    refine R_iload e_X11_feed_1.2.2.2.2.2.2.2.2.2 5 rfl ?_
    refine R_callV (mc := 0) (ms := 0) (mc' := 0) (ms' := 0) (M' := M_X11_putOnTape) (d' := 0) (as := [vI l5]) (st := []) 11 1 e_X11_feed_2.1 (kCVof m_X11_putOnTape l_X11_156) rfl (by decide) kx_0 (by decide) (by decide) rfl rfl (by show (0 : Nat) ≤ 8; decide) ?_
    refine Run.mono h (fun r10 s11 h => ?_)
    refine R_eqs (st2 := []) rfl rfl ?_
    refine R_aload_n e_X11_feed_2.2.1 0 rfl ?_
    refine R_getI 11 5 5 e_X11_feed_2.2.2.1 f_X11_30 kx_0 (fun _ _ => rfl) rfl ?_
    exact R_ireturn e_X11_feed_2.2.2.2 rfl h
  · replace h := h.2 q
    refine R_iconst e_X11_feed_0.2.2.2.2.1 ?_
    exact R_ireturn e_X11_feed_0.2.2.2.2.2.1 rfl h
/-! KiteLand.county(I)I -/
theorem e_X11_county_0 : decode cX11_county 0 = .ok (.iload_n 1, 1) ∧ decode cX11_county 1 = .ok (.ifCond .lt 11, 3) ∧ decode cX11_county 4 = .ok (.iload_n 1, 1) ∧ decode cX11_county 5 = .ok (.aload_n 0, 1) ∧ decode cX11_county 6 = .ok (.getfield 30, 3) ∧ decode cX11_county 9 = .ok (.if_icmp .le 9, 3) ∧ decode cX11_county 12 = .ok (.aload_n 0, 1) ∧ decode cX11_county 13 = .ok (.iconst 1, 1) ∧ decode cX11_county 14 = .ok (.invokevirtual 132, 3) ∧ decode cX11_county 17 = .ok (.ireturn, 1) := by decide +kernel
theorem e_X11_county_1 : decode cX11_county 18 = .ok (.aload_n 0, 1) ∧ decode cX11_county 19 = .ok (.getfield 36, 3) ∧ decode cX11_county 22 = .ok (.aload_n 0, 1) ∧ decode cX11_county 23 = .ok (.getfield 26, 3) ∧ decode cX11_county 26 = .ok (.iload_n 1, 1) ∧ decode cX11_county 27 = .ok (.invokevirtual 160, 3) ∧ decode cX11_county 30 = .ok (.aload_n 0, 1) ∧ decode cX11_county 31 = .ok (.iconst 0, 1) ∧ decode cX11_county 32 = .ok (.putfield 30, 3) ∧ decode cX11_county 35 = .ok (.aload_n 0, 1) := by decide +kernel
theorem e_X11_county_2 : decode cX11_county 36 = .ok (.getfield 55, 3) ∧ decode cX11_county 39 = .ok (.invokevirtual 164, 3) ∧ decode cX11_county 42 = .ok (.istore_n 2, 1) ∧ decode cX11_county 43 = .ok (.iload_n 2, 1) ∧ decode cX11_county 44 = .ok (.ifCond .ne 10, 3) ∧ decode cX11_county 47 = .ok (.aload_n 0, 1) ∧ decode cX11_county 48 = .ok (.bipush 9, 2) ∧ decode cX11_county 50 = .ok (.invokevirtual 132, 3) ∧ decode cX11_county 53 = .ok (.ireturn, 1) ∧ decode cX11_county 54 = .ok (.aload_n 0, 1) := by decide +kernel
theorem e_X11_county_3 : decode cX11_county 55 = .ok (.getfield 43, 3) ∧ decode cX11_county 58 = .ok (.aload_n 0, 1) ∧ decode cX11_county 59 = .ok (.getfield 47, 3) ∧ decode cX11_county 62 = .ok (.invokevirtual 167, 3) ∧ decode cX11_county 65 = .ok (.aload_n 0, 1) ∧ decode cX11_county 66 = .ok (.getfield 71, 3) ∧ decode cX11_county 69 = .ok (.invokevirtual 170, 3) ∧ decode cX11_county 72 = .ok (.aload_n 0, 1) ∧ decode cX11_county 73 = .ok (.aload_n 0, 1) ∧ decode cX11_county 74 = .ok (.getfield 43, 3) := by decide +kernel
theorem e_X11_county_4 : decode cX11_county 77 = .ok (.getfield 173, 3) ∧ decode cX11_county 80 = .ok (.invokevirtual 176, 3) ∧ decode cX11_county 83 = .ok (.ireturn, 1) := by decide +kernel
theorem S_X11_county {G : Kg} {σ : Kmem} {Q : Int → Kmem → Prop} {l1 : Int}  (h : (rI l1) ∧ ((l1 < 0 → Q (-1) (kup σ 0 0 1)) ∧ (0 ≤ l1 → (rI (σ 0 5)) ∧ ((l1 ≤ σ 0 5 → Run G WX M_X6_open 2 0 0 [vA G 3, vA G 2, vI l1] σ (fun r5 s6 => Run G WX M_X1_readAll 9 0 0 [vA G 57] (kup s6 0 5 0) (fun r7 s8 => (rI r7) ∧ ((r7 ≠ 0 → Run G WX M_X0_copy 1 0 0 [vA G 5, vA G 31] s8 (fun r10 s11 => Run G WX M_X7_clear 0 0 0 [vA G 64] s11 (fun r12 s13 => Q (s13 5 5) (kup s13 0 0 0)))) ∧ (r7 = 0 → Q (-1) (kup s8 0 0 9)))))) ∧ (σ 0 5 < l1 → Q (-1) (kup σ 0 0 1)))))) : Run G WX M_X11_county 10 0 0 [vA G 0, vI l1] σ Q := by
  refine Run.of (by decide +kernel) (by show (2 : Nat) ≤ 3; decide) ?_
  show Ex G WX M_X11_county 10 0 0 0 [(0, vA G 0), (1, vI l1)] [] σ Q
  refine R_iload_n e_X11_county_0.1 1 rfl ?_
  obtain ⟨q1, h⟩ := h
  refine R_if_lt 12 e_X11_county_0.2.1 (by decide) q1  (fun q => ?_) (fun q => ?_)
  · replace h := h.1 q
    refine R_aload_n e_X11_county_0.2.2.2.2.2.2.1 0 rfl ?_
    refine R_iconst e_X11_county_0.2.2.2.2.2.2.2.1 ?_
    refine R_callV (mc := 0) (ms := 0) (mc' := 0) (ms' := 0) (M' := M_X11_deny) (d' := 0) (as := [vI 1]) (st := []) 11 1 e_X11_county_0.2.2.2.2.2.2.2.2.1 (kCVof m_X11_deny l_X11_132) rfl (by decide) kx_0 (by decide) (by decide) rfl rfl (by show (0 : Nat) ≤ 8; decide) ?_
    refine S_X11_deny ?_
    refine R_eqs (st2 := [vI (-1)]) (σ2 := (kup σ 0 0 1)) rfl rfl ?_
    exact R_ireturn e_X11_county_0.2.2.2.2.2.2.2.2.2 rfl h
  · replace h := h.2 q
    refine R_iload_n e_X11_county_0.2.2.1 1 rfl ?_
    refine R_aload_n e_X11_county_0.2.2.2.1 0 rfl ?_
    refine R_getI 11 5 5 e_X11_county_0.2.2.2.2.1 f_X11_30 kx_0 (fun _ _ => rfl) rfl ?_
    obtain ⟨q4, h⟩ := h
    refine R_icmp_le 18 e_X11_county_0.2.2.2.2.2.1 (by decide) q1 q4 (fun q => ?_) (fun q => ?_)
    · replace h := h.1 q
      refine R_aload_n e_X11_county_1.1 0 rfl ?_
      refine R_getA 11 6 3 e_X11_county_1.2.1 f_X11_36 kx_0 (fun _ _ => rfl) rx_0_6 (by decide) ?_
      refine R_aload_n e_X11_county_1.2.2.1 0 rfl ?_
      refine R_getA 11 4 2 e_X11_county_1.2.2.2.1 f_X11_26 kx_0 (fun _ _ => rfl) rx_0_4 (by decide) ?_
      refine R_iload_n e_X11_county_1.2.2.2.2.1 1 rfl ?_
      refine R_callV (mc := 0) (ms := 0) (mc' := 0) (ms' := 0) (M' := M_X6_open) (d' := 2) (as := [vA G 2, vI l1]) (st := []) 6 2 e_X11_county_1.2.2.2.2.2.1 (kCVof m_X6_open l_X11_160) rfl (by decide) kx_3 (by decide) (by decide) rfl rfl (by show (0 : Nat) ≤ 8; decide) ?_
      refine Run.mono h (fun r5 s6 h => ?_)
      refine R_eqs (st2 := []) rfl rfl ?_
      refine R_aload_n e_X11_county_1.2.2.2.2.2.2.1 0 rfl ?_
      refine R_iconst e_X11_county_1.2.2.2.2.2.2.2.1 ?_
      refine R_putI 11 5 5 WX_ok e_X11_county_1.2.2.2.2.2.2.2.2.1 f_X11_30 kx_0 rfl rfl rfl ?_
      refine R_aload_n e_X11_county_1.2.2.2.2.2.2.2.2.2 0 rfl ?_
      refine R_getA 11 9 57 e_X11_county_2.1 f_X11_55 kx_0 (fun _ _ => rfl) rx_0_9 (by decide) ?_
      refine R_callV (mc := 0) (ms := 0) (mc' := 0) (ms' := 0) (M' := M_X1_readAll) (d' := 9) (as := []) (st := []) 1 0 e_X11_county_2.2.1 (kCVof m_X1_readAll l_X11_164) rfl (by decide) kx_57 (by decide) (by decide) rfl rfl (by show (0 : Nat) ≤ 8; decide) ?_
      refine Run.mono h (fun r7 s8 h => ?_)
      refine R_eqs (st2 := [vI r7]) rfl rfl ?_
      refine R_istore_n (ls2 := [(2, vI r7), (0, vA G 0), (1, vI l1)]) e_X11_county_2.2.2.1 (by decide) rfl ?_
      refine R_iload_n e_X11_county_2.2.2.2.1 0 rfl ?_
      obtain ⟨q9, h⟩ := h
      refine R_if_ne 54 e_X11_county_2.2.2.2.2.1 (by decide) q9  (fun q => ?_) (fun q => ?_)
      · replace h := h.1 q
        refine R_aload_n e_X11_county_2.2.2.2.2.2.2.2.2.2 1 rfl ?_
        refine R_getA 11 7 5 e_X11_county_3.1 f_X11_43 kx_0 (fun _ _ => rfl) rx_0_7 (by decide) ?_
        refine R_aload_n e_X11_county_3.2.1 1 rfl ?_
        refine R_getA 11 8 31 e_X11_county_3.2.2.1 f_X11_47 kx_0 (fun _ _ => rfl) rx_0_8 (by decide) ?_
        refine R_callV (mc := 0) (ms := 0) (mc' := 0) (ms' := 0) (M' := M_X0_copy) (d' := 1) (as := [vA G 31]) (st := []) 0 1 e_X11_county_3.2.2.2.1 (kCVof m_X0_copy l_X11_167) rfl (by decide) (kC_self isC_5) (by decide) (by decide) rfl rfl (by show (0 : Nat) ≤ 8; decide) ?_
        refine Run.mono h (fun r10 s11 h => ?_)
        refine R_eqs (st2 := []) rfl rfl ?_
        refine R_aload_n e_X11_county_3.2.2.2.2.1 1 rfl ?_
        refine R_getA 11 11 64 e_X11_county_3.2.2.2.2.2.1 f_X11_71 kx_0 (fun _ _ => rfl) rx_0_11 (by decide) ?_
        refine R_callV (mc := 0) (ms := 0) (mc' := 0) (ms' := 0) (M' := M_X7_clear) (d' := 0) (as := []) (st := []) 7 0 e_X11_county_3.2.2.2.2.2.2.1 (kCVof m_X7_clear l_X11_170) rfl (by decide) (kS_self isS_64) (by decide) (by decide) rfl rfl (by show (0 : Nat) ≤ 8; decide) ?_
        refine Run.mono h (fun r12 s13 h => ?_)
        refine R_eqs (st2 := []) rfl rfl ?_
        refine R_aload_n e_X11_county_3.2.2.2.2.2.2.2.1 1 rfl ?_
        refine R_aload_n e_X11_county_3.2.2.2.2.2.2.2.2.1 1 rfl ?_
        refine R_getA 11 7 5 e_X11_county_3.2.2.2.2.2.2.2.2.2 f_X11_43 kx_0 (fun _ _ => rfl) rx_0_7 (by decide) ?_
        refine R_getI 0 5 5 e_X11_county_4.1 f_X11_173 (kC_self isC_5) (fun _ _ => rfl) rfl ?_
        refine R_callV (mc := 0) (ms := 0) (mc' := 0) (ms' := 0) (M' := M_X11_give) (d' := 0) (as := [vI (s13 5 5)]) (st := []) 11 1 e_X11_county_4.2.1 (kCVof m_X11_give l_X11_176) rfl (by decide) kx_0 (by decide) (by decide) rfl rfl (by show (0 : Nat) ≤ 8; decide) ?_
        refine S_X11_give ?_
        refine R_eqs (st2 := [vI (s13 5 5)]) (σ2 := (kup s13 0 0 0)) rfl rfl ?_
        exact R_ireturn e_X11_county_4.2.2 rfl h
      · replace h := h.2 q
        refine R_aload_n e_X11_county_2.2.2.2.2.2.1 1 rfl ?_
        refine R_bipush e_X11_county_2.2.2.2.2.2.2.1 (by decide) ?_
        refine R_callV (mc := 0) (ms := 0) (mc' := 0) (ms' := 0) (M' := M_X11_deny) (d' := 0) (as := [vI 9]) (st := []) 11 1 e_X11_county_2.2.2.2.2.2.2.2.1 (kCVof m_X11_deny l_X11_132) rfl (by decide) kx_0 (by decide) (by decide) rfl rfl (by show (0 : Nat) ≤ 8; decide) ?_
        refine S_X11_deny ?_
        refine R_eqs (st2 := [vI (-1)]) (σ2 := (kup s8 0 0 9)) rfl rfl ?_
        exact R_ireturn e_X11_county_2.2.2.2.2.2.2.2.2.1 rfl h
    · replace h := h.2 q
      refine R_aload_n e_X11_county_0.2.2.2.2.2.2.1 0 rfl ?_
      refine R_iconst e_X11_county_0.2.2.2.2.2.2.2.1 ?_
      refine R_callV (mc := 0) (ms := 0) (mc' := 0) (ms' := 0) (M' := M_X11_deny) (d' := 0) (as := [vI 1]) (st := []) 11 1 e_X11_county_0.2.2.2.2.2.2.2.2.1 (kCVof m_X11_deny l_X11_132) rfl (by decide) kx_0 (by decide) (by decide) rfl rfl (by show (0 : Nat) ≤ 8; decide) ?_
      refine S_X11_deny ?_
      refine R_eqs (st2 := [vI (-1)]) (σ2 := (kup σ 0 0 1)) rfl rfl ?_
      exact R_ireturn e_X11_county_0.2.2.2.2.2.2.2.2.2 rfl h
/-! KiteLand.seasons(I)I -/
theorem e_X11_seasons_0 : decode cX11_seasons 0 = .ok (.iload_n 1, 1) ∧ decode cX11_seasons 1 = .ok (.ifCond .lt 18, 3) ∧ decode cX11_seasons 4 = .ok (.iload_n 1, 1) ∧ decode cX11_seasons 5 = .ok (.aload_n 0, 1) ∧ decode cX11_seasons 6 = .ok (.getfield 30, 3) ∧ decode cX11_seasons 9 = .ok (.if_icmp .gt 10, 3) ∧ decode cX11_seasons 12 = .ok (.iload_n 1, 1) ∧ decode cX11_seasons 13 = .ok (.sipush 300, 3) ∧ decode cX11_seasons 16 = .ok (.if_icmp .le 9, 3) ∧ decode cX11_seasons 19 = .ok (.aload_n 0, 1) := by decide +kernel
theorem e_X11_seasons_1 : decode cX11_seasons 20 = .ok (.iconst 1, 1) ∧ decode cX11_seasons 21 = .ok (.invokevirtual 132, 3) ∧ decode cX11_seasons 24 = .ok (.ireturn, 1) ∧ decode cX11_seasons 25 = .ok (.aload_n 0, 1) ∧ decode cX11_seasons 26 = .ok (.getfield 36, 3) ∧ decode cX11_seasons 29 = .ok (.aload_n 0, 1) ∧ decode cX11_seasons 30 = .ok (.getfield 26, 3) ∧ decode cX11_seasons 33 = .ok (.iload_n 1, 1) ∧ decode cX11_seasons 34 = .ok (.invokevirtual 160, 3) ∧ decode cX11_seasons 37 = .ok (.aload_n 0, 1) := by decide +kernel
theorem e_X11_seasons_2 : decode cX11_seasons 38 = .ok (.iconst 0, 1) ∧ decode cX11_seasons 39 = .ok (.putfield 30, 3) ∧ decode cX11_seasons 42 = .ok (.aload_n 0, 1) ∧ decode cX11_seasons 43 = .ok (.getfield 75, 3) ∧ decode cX11_seasons 46 = .ok (.aload_n 0, 1) ∧ decode cX11_seasons 47 = .ok (.getfield 36, 3) ∧ decode cX11_seasons 50 = .ok (.aload_n 0, 1) ∧ decode cX11_seasons 51 = .ok (.getfield 43, 3) ∧ decode cX11_seasons 54 = .ok (.invokevirtual 179, 3) ∧ decode cX11_seasons 57 = .ok (.istore_n 2, 1) := by decide +kernel
theorem e_X11_seasons_3 : decode cX11_seasons 58 = .ok (.iload_n 2, 1) ∧ decode cX11_seasons 59 = .ok (.ifCond .ne 10, 3) ∧ decode cX11_seasons 62 = .ok (.aload_n 0, 1) ∧ decode cX11_seasons 63 = .ok (.bipush 9, 2) ∧ decode cX11_seasons 65 = .ok (.invokevirtual 132, 3) ∧ decode cX11_seasons 68 = .ok (.ireturn, 1) ∧ decode cX11_seasons 69 = .ok (.aload_n 0, 1) ∧ decode cX11_seasons 70 = .ok (.getfield 71, 3) ∧ decode cX11_seasons 73 = .ok (.aload_n 0, 1) ∧ decode cX11_seasons 74 = .ok (.getfield 75, 3) := by decide +kernel
theorem e_X11_seasons_4 : decode cX11_seasons 77 = .ok (.invokevirtual 182, 3) ∧ decode cX11_seasons 80 = .ok (.aload_n 0, 1) ∧ decode cX11_seasons 81 = .ok (.aload_n 0, 1) ∧ decode cX11_seasons 82 = .ok (.getfield 71, 3) ∧ decode cX11_seasons 85 = .ok (.getfield 185, 3) ∧ decode cX11_seasons 88 = .ok (.invokevirtual 176, 3) ∧ decode cX11_seasons 91 = .ok (.ireturn, 1) := by decide +kernel
theorem S_X11_seasons {G : Kg} {σ : Kmem} {Q : Int → Kmem → Prop} {l1 : Int}  (h : (rI l1) ∧ ((l1 < 0 → Q (-1) (kup σ 0 0 1)) ∧ (0 ≤ l1 → (rI (σ 0 5)) ∧ ((σ 0 5 < l1 → Q (-1) (kup σ 0 0 1)) ∧ (l1 ≤ σ 0 5 → ((l1 ≤ 300 → Run G WX M_X6_open 2 0 0 [vA G 3, vA G 2, vI l1] σ (fun r7 s8 => Run G WX M_X7_readAll 9 0 0 [vA G 71, vA G 3, vA G 5] (kup s8 0 5 0) (fun r9 s10 => (rI r9) ∧ ((r9 ≠ 0 → Run G WX M_X7_copy 1 0 0 [vA G 64, vA G 71] s10 (fun r12 s13 => Q (s13 64 1) (kup s13 0 0 0))) ∧ (r9 = 0 → Q (-1) (kup s10 0 0 9)))))) ∧ (300 < l1 → Q (-1) (kup σ 0 0 1)))))))) : Run G WX M_X11_seasons 10 0 0 [vA G 0, vI l1] σ Q := by
  refine Run.of (by decide +kernel) (by show (2 : Nat) ≤ 3; decide) ?_
  show Ex G WX M_X11_seasons 10 0 0 0 [(0, vA G 0), (1, vI l1)] [] σ Q
  refine R_iload_n e_X11_seasons_0.1 1 rfl ?_
  obtain ⟨q1, h⟩ := h
  refine R_if_lt 19 e_X11_seasons_0.2.1 (by decide) q1  (fun q => ?_) (fun q => ?_)
  · replace h := h.1 q
    refine R_aload_n e_X11_seasons_0.2.2.2.2.2.2.2.2.2 0 rfl ?_
    refine R_iconst e_X11_seasons_1.1 ?_
    refine R_callV (mc := 0) (ms := 0) (mc' := 0) (ms' := 0) (M' := M_X11_deny) (d' := 0) (as := [vI 1]) (st := []) 11 1 e_X11_seasons_1.2.1 (kCVof m_X11_deny l_X11_132) rfl (by decide) kx_0 (by decide) (by decide) rfl rfl (by show (0 : Nat) ≤ 8; decide) ?_
    refine S_X11_deny ?_
    refine R_eqs (st2 := [vI (-1)]) (σ2 := (kup σ 0 0 1)) rfl rfl ?_
    exact R_ireturn e_X11_seasons_1.2.2.1 rfl h
  · replace h := h.2 q
    refine R_iload_n e_X11_seasons_0.2.2.1 1 rfl ?_
    refine R_aload_n e_X11_seasons_0.2.2.2.1 0 rfl ?_
    refine R_getI 11 5 5 e_X11_seasons_0.2.2.2.2.1 f_X11_30 kx_0 (fun _ _ => rfl) rfl ?_
    obtain ⟨q4, h⟩ := h
    refine R_icmp_gt 19 e_X11_seasons_0.2.2.2.2.2.1 (by decide) q1 q4 (fun q => ?_) (fun q => ?_)
    · replace h := h.1 q
      refine R_aload_n e_X11_seasons_0.2.2.2.2.2.2.2.2.2 0 rfl ?_
      refine R_iconst e_X11_seasons_1.1 ?_
      refine R_callV (mc := 0) (ms := 0) (mc' := 0) (ms' := 0) (M' := M_X11_deny) (d' := 0) (as := [vI 1]) (st := []) 11 1 e_X11_seasons_1.2.1 (kCVof m_X11_deny l_X11_132) rfl (by decide) kx_0 (by decide) (by decide) rfl rfl (by show (0 : Nat) ≤ 8; decide) ?_
      refine S_X11_deny ?_
      refine R_eqs (st2 := [vI (-1)]) (σ2 := (kup σ 0 0 1)) rfl rfl ?_
      exact R_ireturn e_X11_seasons_1.2.2.1 rfl h
    · replace h := h.2 q
      refine R_iload_n e_X11_seasons_0.2.2.2.2.2.2.1 1 rfl ?_
      refine R_sipush e_X11_seasons_0.2.2.2.2.2.2.2.1 (by decide) ?_
      refine R_icmp_le 25 e_X11_seasons_0.2.2.2.2.2.2.2.2.1 (by decide) q1 (by decide) (fun q => ?_) (fun q => ?_)
      · replace h := h.1 q
        refine R_aload_n e_X11_seasons_1.2.2.2.1 0 rfl ?_
        refine R_getA 11 6 3 e_X11_seasons_1.2.2.2.2.1 f_X11_36 kx_0 (fun _ _ => rfl) rx_0_6 (by decide) ?_
        refine R_aload_n e_X11_seasons_1.2.2.2.2.2.1 0 rfl ?_
        refine R_getA 11 4 2 e_X11_seasons_1.2.2.2.2.2.2.1 f_X11_26 kx_0 (fun _ _ => rfl) rx_0_4 (by decide) ?_
        refine R_iload_n e_X11_seasons_1.2.2.2.2.2.2.2.1 1 rfl ?_
        refine R_callV (mc := 0) (ms := 0) (mc' := 0) (ms' := 0) (M' := M_X6_open) (d' := 2) (as := [vA G 2, vI l1]) (st := []) 6 2 e_X11_seasons_1.2.2.2.2.2.2.2.2.1 (kCVof m_X6_open l_X11_160) rfl (by decide) kx_3 (by decide) (by decide) rfl rfl (by show (0 : Nat) ≤ 8; decide) ?_
        refine Run.mono h (fun r7 s8 h => ?_)
        refine R_eqs (st2 := []) rfl rfl ?_
        refine R_aload_n e_X11_seasons_1.2.2.2.2.2.2.2.2.2 0 rfl ?_
        refine R_iconst e_X11_seasons_2.1 ?_
        refine R_putI 11 5 5 WX_ok e_X11_seasons_2.2.1 f_X11_30 kx_0 rfl rfl rfl ?_
        refine R_aload_n e_X11_seasons_2.2.2.1 0 rfl ?_
        refine R_getA 11 12 71 e_X11_seasons_2.2.2.2.1 f_X11_75 kx_0 (fun _ _ => rfl) rx_0_12 (by decide) ?_
        refine R_aload_n e_X11_seasons_2.2.2.2.2.1 0 rfl ?_
        refine R_getA 11 6 3 e_X11_seasons_2.2.2.2.2.2.1 f_X11_36 kx_0 (fun _ _ => rfl) rx_0_6 (by decide) ?_
        refine R_aload_n e_X11_seasons_2.2.2.2.2.2.2.1 0 rfl ?_
        refine R_getA 11 7 5 e_X11_seasons_2.2.2.2.2.2.2.2.1 f_X11_43 kx_0 (fun _ _ => rfl) rx_0_7 (by decide) ?_
        refine R_callV (mc := 0) (ms := 0) (mc' := 0) (ms' := 0) (M' := M_X7_readAll) (d' := 9) (as := [vA G 3, vA G 5]) (st := []) 7 2 e_X11_seasons_2.2.2.2.2.2.2.2.2.1 (kCVof m_X7_readAll l_X11_179) rfl (by decide) (kS_self isS_71) (by decide) (by decide) rfl rfl (by show (0 : Nat) ≤ 8; decide) ?_
        refine Run.mono h (fun r9 s10 h => ?_)
        refine R_eqs (st2 := [vI r9]) rfl rfl ?_
        refine R_istore_n (ls2 := [(2, vI r9), (0, vA G 0), (1, vI l1)]) e_X11_seasons_2.2.2.2.2.2.2.2.2.2 (by decide) rfl ?_
        refine R_iload_n e_X11_seasons_3.1 0 rfl ?_
        obtain ⟨q11, h⟩ := h
        refine R_if_ne 69 e_X11_seasons_3.2.1 (by decide) q11  (fun q => ?_) (fun q => ?_)
        · replace h := h.1 q
          refine R_aload_n e_X11_seasons_3.2.2.2.2.2.2.1 1 rfl ?_
          refine R_getA 11 11 64 e_X11_seasons_3.2.2.2.2.2.2.2.1 f_X11_71 kx_0 (fun _ _ => rfl) rx_0_11 (by decide) ?_
          refine R_aload_n e_X11_seasons_3.2.2.2.2.2.2.2.2.1 1 rfl ?_
          refine R_getA 11 12 71 e_X11_seasons_3.2.2.2.2.2.2.2.2.2 f_X11_75 kx_0 (fun _ _ => rfl) rx_0_12 (by decide) ?_
          refine R_callV (mc := 0) (ms := 0) (mc' := 0) (ms' := 0) (M' := M_X7_copy) (d' := 1) (as := [vA G 71]) (st := []) 7 1 e_X11_seasons_4.1 (kCVof m_X7_copy l_X11_182) rfl (by decide) (kS_self isS_64) (by decide) (by decide) rfl rfl (by show (0 : Nat) ≤ 8; decide) ?_
          refine Run.mono h (fun r12 s13 h => ?_)
          refine R_eqs (st2 := []) rfl rfl ?_
          refine R_aload_n e_X11_seasons_4.2.1 1 rfl ?_
          refine R_aload_n e_X11_seasons_4.2.2.1 1 rfl ?_
          refine R_getA 11 11 64 e_X11_seasons_4.2.2.2.1 f_X11_71 kx_0 (fun _ _ => rfl) rx_0_11 (by decide) ?_
          refine R_getI 7 1 1 e_X11_seasons_4.2.2.2.2.1 f_X11_185 (kS_self isS_64) (fun _ _ => rfl) rfl ?_
          refine R_callV (mc := 0) (ms := 0) (mc' := 0) (ms' := 0) (M' := M_X11_give) (d' := 0) (as := [vI (s13 64 1)]) (st := []) 11 1 e_X11_seasons_4.2.2.2.2.2.1 (kCVof m_X11_give l_X11_176) rfl (by decide) kx_0 (by decide) (by decide) rfl rfl (by show (0 : Nat) ≤ 8; decide) ?_
          refine S_X11_give ?_
          refine R_eqs (st2 := [vI (s13 64 1)]) (σ2 := (kup s13 0 0 0)) rfl rfl ?_
          exact R_ireturn e_X11_seasons_4.2.2.2.2.2.2 rfl h
        · replace h := h.2 q
          refine R_aload_n e_X11_seasons_3.2.2.1 1 rfl ?_
          refine R_bipush e_X11_seasons_3.2.2.2.1 (by decide) ?_
          refine R_callV (mc := 0) (ms := 0) (mc' := 0) (ms' := 0) (M' := M_X11_deny) (d' := 0) (as := [vI 9]) (st := []) 11 1 e_X11_seasons_3.2.2.2.2.1 (kCVof m_X11_deny l_X11_132) rfl (by decide) kx_0 (by decide) (by decide) rfl rfl (by show (0 : Nat) ≤ 8; decide) ?_
          refine S_X11_deny ?_
          refine R_eqs (st2 := [vI (-1)]) (σ2 := (kup s10 0 0 9)) rfl rfl ?_
          exact R_ireturn e_X11_seasons_3.2.2.2.2.2.1 rfl h
      · replace h := h.2 q
        refine R_aload_n e_X11_seasons_0.2.2.2.2.2.2.2.2.2 0 rfl ?_
        refine R_iconst e_X11_seasons_1.1 ?_
        refine R_callV (mc := 0) (ms := 0) (mc' := 0) (ms' := 0) (M' := M_X11_deny) (d' := 0) (as := [vI 1]) (st := []) 11 1 e_X11_seasons_1.2.1 (kCVof m_X11_deny l_X11_132) rfl (by decide) kx_0 (by decide) (by decide) rfl rfl (by show (0 : Nat) ≤ 8; decide) ?_
        refine S_X11_deny ?_
        refine R_eqs (st2 := [vI (-1)]) (σ2 := (kup σ 0 0 1)) rfl rfl ?_
        exact R_ireturn e_X11_seasons_1.2.2.1 rfl h
/-! KiteLand.fault(I)I -/
theorem e_X11_fault_0 : decode cX11_fault 0 = .ok (.iload_n 1, 1) ∧ decode cX11_fault 1 = .ok (.ifCond .ne 13, 3) ∧ decode cX11_fault 4 = .ok (.aload_n 0, 1) ∧ decode cX11_fault 5 = .ok (.getfield 36, 3) ∧ decode cX11_fault 8 = .ok (.getfield 188, 3) ∧ decode cX11_fault 11 = .ok (.goto 19, 3) ∧ decode cX11_fault 14 = .ok (.iload_n 1, 1) ∧ decode cX11_fault 15 = .ok (.iconst 1, 1) ∧ decode cX11_fault 16 = .ok (.if_icmp .ne 13, 3) ∧ decode cX11_fault 19 = .ok (.aload_n 0, 1) := by decide +kernel
theorem e_X11_fault_1 : decode cX11_fault 20 = .ok (.getfield 36, 3) ∧ decode cX11_fault 23 = .ok (.getfield 191, 3) ∧ decode cX11_fault 26 = .ok (.goto 4, 3) ∧ decode cX11_fault 29 = .ok (.iconst (-1), 1) ∧ decode cX11_fault 30 = .ok (.ireturn, 1) := by decide +kernel
theorem S_X11_fault {G : Kg} {σ : Kmem} {Q : Int → Kmem → Prop} {l1 : Int}  (h : (rI l1) ∧ ((l1 ≠ 0 → ((l1 ≠ 1 → Q (-1) σ) ∧ (l1 = 1 → Q (σ 3 9) σ))) ∧ (l1 = 0 → Q (σ 3 8) σ))) : Run G WX M_X11_fault 0 0 0 [vA G 0, vI l1] σ Q := by
  refine Run.of (by decide +kernel) (by show (2 : Nat) ≤ 2; decide) ?_
  show Ex G WX M_X11_fault 0 0 0 0 [(0, vA G 0), (1, vI l1)] [] σ Q
  refine R_iload_n e_X11_fault_0.1 1 rfl ?_
  obtain ⟨q1, h⟩ := h
  refine R_if_ne 14 e_X11_fault_0.2.1 (by decide) q1  (fun q => ?_) (fun q => ?_)
  · replace h := h.1 q
    refine R_iload_n e_X11_fault_0.2.2.2.2.2.2.1 1 rfl ?_
    refine R_iconst e_X11_fault_0.2.2.2.2.2.2.2.1 ?_
    refine R_icmp_ne 29 e_X11_fault_0.2.2.2.2.2.2.2.2.1 (by decide) q1 (by decide) (fun q => ?_) (fun q => ?_)
    · replace h := h.1 q
      refine R_iconst e_X11_fault_1.2.2.2.1 ?_
      exact R_ireturn e_X11_fault_1.2.2.2.2 rfl h
    · replace h := h.2 q
      refine R_aload_n e_X11_fault_0.2.2.2.2.2.2.2.2.2 0 rfl ?_
      refine R_getA 11 6 3 e_X11_fault_1.1 f_X11_36 kx_0 (fun _ _ => rfl) rx_0_6 (by decide) ?_
      refine R_getI 6 9 9 e_X11_fault_1.2.1 f_X11_191 kx_3 (fun _ _ => rfl) rfl ?_
      refine R_goto 30 e_X11_fault_1.2.2.1 (by decide) ?_
      exact R_ireturn e_X11_fault_1.2.2.2.2 rfl h
  · replace h := h.2 q
    refine R_aload_n e_X11_fault_0.2.2.1 0 rfl ?_
    refine R_getA 11 6 3 e_X11_fault_0.2.2.2.1 f_X11_36 kx_0 (fun _ _ => rfl) rx_0_6 (by decide) ?_
    refine R_getI 6 8 8 e_X11_fault_0.2.2.2.2.1 f_X11_188 kx_3 (fun _ _ => rfl) rfl ?_
    refine R_goto 30 e_X11_fault_0.2.2.2.2.2.1 (by decide) ?_
    exact R_ireturn e_X11_fault_1.2.2.2.2 rfl h
/-! KiteLand.told(I)I -/
theorem e_X11_told_0 : decode cX11_told 0 = .ok (.iload_n 1, 1) ∧ decode cX11_told 1 = .ok (.tableswitch 195 0 10 #[59, 71, 83, 95, 107, 119, 131, 143, 155, 171, 183], 59) ∧ decode cX11_told 60 = .ok (.aload_n 0, 1) ∧ decode cX11_told 61 = .ok (.aload_n 0, 1) ∧ decode cX11_told 62 = .ok (.getfield 43, 3) ∧ decode cX11_told 65 = .ok (.getfield 194, 3) ∧ decode cX11_told 68 = .ok (.invokevirtual 176, 3) ∧ decode cX11_told 71 = .ok (.ireturn, 1) ∧ decode cX11_told 72 = .ok (.aload_n 0, 1) ∧ decode cX11_told 73 = .ok (.aload_n 0, 1) := by decide +kernel
theorem e_X11_told_1 : decode cX11_told 74 = .ok (.getfield 43, 3) ∧ decode cX11_told 77 = .ok (.getfield 197, 3) ∧ decode cX11_told 80 = .ok (.invokevirtual 176, 3) ∧ decode cX11_told 83 = .ok (.ireturn, 1) ∧ decode cX11_told 84 = .ok (.aload_n 0, 1) ∧ decode cX11_told 85 = .ok (.aload_n 0, 1) ∧ decode cX11_told 86 = .ok (.getfield 43, 3) ∧ decode cX11_told 89 = .ok (.getfield 173, 3) ∧ decode cX11_told 92 = .ok (.invokevirtual 176, 3) ∧ decode cX11_told 95 = .ok (.ireturn, 1) := by decide +kernel
theorem e_X11_told_2 : decode cX11_told 96 = .ok (.aload_n 0, 1) ∧ decode cX11_told 97 = .ok (.aload_n 0, 1) ∧ decode cX11_told 98 = .ok (.getfield 43, 3) ∧ decode cX11_told 101 = .ok (.getfield 200, 3) ∧ decode cX11_told 104 = .ok (.invokevirtual 176, 3) ∧ decode cX11_told 107 = .ok (.ireturn, 1) ∧ decode cX11_told 108 = .ok (.aload_n 0, 1) ∧ decode cX11_told 109 = .ok (.aload_n 0, 1) ∧ decode cX11_told 110 = .ok (.getfield 43, 3) ∧ decode cX11_told 113 = .ok (.getfield 203, 3) := by decide +kernel
theorem e_X11_told_3 : decode cX11_told 116 = .ok (.invokevirtual 176, 3) ∧ decode cX11_told 119 = .ok (.ireturn, 1) ∧ decode cX11_told 120 = .ok (.aload_n 0, 1) ∧ decode cX11_told 121 = .ok (.aload_n 0, 1) ∧ decode cX11_told 122 = .ok (.getfield 43, 3) ∧ decode cX11_told 125 = .ok (.getfield 206, 3) ∧ decode cX11_told 128 = .ok (.invokevirtual 176, 3) ∧ decode cX11_told 131 = .ok (.ireturn, 1) ∧ decode cX11_told 132 = .ok (.aload_n 0, 1) ∧ decode cX11_told 133 = .ok (.aload_n 0, 1) := by decide +kernel
theorem e_X11_told_4 : decode cX11_told 134 = .ok (.getfield 43, 3) ∧ decode cX11_told 137 = .ok (.getfield 209, 3) ∧ decode cX11_told 140 = .ok (.invokevirtual 176, 3) ∧ decode cX11_told 143 = .ok (.ireturn, 1) ∧ decode cX11_told 144 = .ok (.aload_n 0, 1) ∧ decode cX11_told 145 = .ok (.aload_n 0, 1) ∧ decode cX11_told 146 = .ok (.getfield 43, 3) ∧ decode cX11_told 149 = .ok (.getfield 212, 3) ∧ decode cX11_told 152 = .ok (.invokevirtual 176, 3) ∧ decode cX11_told 155 = .ok (.ireturn, 1) := by decide +kernel
theorem e_X11_told_5 : decode cX11_told 156 = .ok (.aload_n 0, 1) ∧ decode cX11_told 157 = .ok (.invokevirtual 215, 3) ∧ decode cX11_told 160 = .ok (.aload_n 0, 1) ∧ decode cX11_told 161 = .ok (.aload_n 0, 1) ∧ decode cX11_told 162 = .ok (.getfield 64, 3) ∧ decode cX11_told 165 = .ok (.getfield 218, 3) ∧ decode cX11_told 168 = .ok (.invokevirtual 176, 3) ∧ decode cX11_told 171 = .ok (.ireturn, 1) ∧ decode cX11_told 172 = .ok (.aload_n 0, 1) ∧ decode cX11_told 173 = .ok (.aload_n 0, 1) := by decide +kernel
theorem e_X11_told_6 : decode cX11_told 174 = .ok (.getfield 43, 3) ∧ decode cX11_told 177 = .ok (.invokevirtual 221, 3) ∧ decode cX11_told 180 = .ok (.invokevirtual 176, 3) ∧ decode cX11_told 183 = .ok (.ireturn, 1) ∧ decode cX11_told 184 = .ok (.aload_n 0, 1) ∧ decode cX11_told 185 = .ok (.aload_n 0, 1) ∧ decode cX11_told 186 = .ok (.getfield 43, 3) ∧ decode cX11_told 189 = .ok (.invokevirtual 225, 3) ∧ decode cX11_told 192 = .ok (.invokevirtual 176, 3) ∧ decode cX11_told 195 = .ok (.ireturn, 1) := by decide +kernel
theorem e_X11_told_7 : decode cX11_told 196 = .ok (.aload_n 0, 1) ∧ decode cX11_told 197 = .ok (.iconst 1, 1) ∧ decode cX11_told 198 = .ok (.invokevirtual 132, 3) ∧ decode cX11_told 201 = .ok (.ireturn, 1) := by decide +kernel
theorem S_X11_told {G : Kg} {σ : Kmem} {Q : Int → Kmem → Prop} {l1 : Int} {v : Int → Int}  (h : (rI l1) ∧ ((l1 = 0 → Q (σ 5 0) (kup σ 0 0 0)) ∧ (l1 = 1 → Q (σ 5 1) (kup σ 0 0 0)) ∧ (l1 = 2 → Q (σ 5 5) (kup σ 0 0 0)) ∧ (l1 = 3 → Q (σ 5 6) (kup σ 0 0 0)) ∧ (l1 = 4 → Q (σ 5 7) (kup σ 0 0 0)) ∧ (l1 = 5 → Q (σ 5 2) (kup σ 0 0 0)) ∧ (l1 = 6 → Q (σ 5 3) (kup σ 0 0 0)) ∧ (l1 = 7 → Q (σ 5 4) (kup σ 0 0 0)) ∧ (l1 = 8 → Run G WX M_X11_lookNow 4 0 0 [vA G 0] σ (fun r18 s19 => Q (s19 58 1) (kup s19 0 0 0))) ∧ (l1 = 9 → (wf v ∧ kco σ 5 v) ∧ Q (kset (fun k => v (34 + 9 * k + 8) = 1) (v 2).toNat : Int) (kup σ 0 0 0)) ∧ (l1 = 10 → (wf v ∧ kco σ 5 v) ∧ Q (kset (fun i => v (88 + 4 * i + 2) ≤ v (88 + 4 * i + 3)) (v 3).toNat : Int) (kup σ 0 0 0)) ∧ (l1 < 0 ∨ 10 < l1 → Q (-1) (kup σ 0 0 1)))) : Run G WX M_X11_told 5 0 0 [vA G 0, vI l1] σ Q := by
  refine Run.of (by decide +kernel) (by show (2 : Nat) ≤ 2; decide) ?_
  show Ex G WX M_X11_told 5 0 0 0 [(0, vA G 0), (1, vI l1)] [] σ Q
  refine R_iload_n e_X11_told_0.1 1 rfl ?_
  obtain ⟨q1, h⟩ := h
  by_cases t0 : l1 = 0
  · refine R_tableIn 60 e_X11_told_0.2.1 q1 (by omega) (by omega) (off := 59) (by rw [t0]; rfl) (by decide) ?_
    replace h := h.1 t0
    refine R_aload_n e_X11_told_0.2.2.1 0 rfl ?_
    refine R_aload_n e_X11_told_0.2.2.2.1 0 rfl ?_
    refine R_getA 11 7 5 e_X11_told_0.2.2.2.2.1 f_X11_43 kx_0 (fun _ _ => rfl) rx_0_7 (by decide) ?_
    refine R_getI 0 0 0 e_X11_told_0.2.2.2.2.2.1 f_X11_194 (kC_self isC_5) (fun _ _ => rfl) rfl ?_
    refine R_callV (mc := 0) (ms := 0) (mc' := 0) (ms' := 0) (M' := M_X11_give) (d' := 0) (as := [vI (σ 5 0)]) (st := []) 11 1 e_X11_told_0.2.2.2.2.2.2.1 (kCVof m_X11_give l_X11_176) rfl (by decide) kx_0 (by decide) (by decide) rfl rfl (by show (0 : Nat) ≤ 8; decide) ?_
    refine S_X11_give ?_
    refine R_eqs (st2 := [vI (σ 5 0)]) (σ2 := (kup σ 0 0 0)) rfl rfl ?_
    exact R_ireturn e_X11_told_0.2.2.2.2.2.2.2.1 rfl h
  by_cases t1 : l1 = 1
  · refine R_tableIn 72 e_X11_told_0.2.1 q1 (by omega) (by omega) (off := 71) (by rw [t1]; rfl) (by decide) ?_
    replace h := h.2.1 t1
    refine R_aload_n e_X11_told_0.2.2.2.2.2.2.2.2.1 0 rfl ?_
    refine R_aload_n e_X11_told_0.2.2.2.2.2.2.2.2.2 0 rfl ?_
    refine R_getA 11 7 5 e_X11_told_1.1 f_X11_43 kx_0 (fun _ _ => rfl) rx_0_7 (by decide) ?_
    refine R_getI 0 1 1 e_X11_told_1.2.1 f_X11_197 (kC_self isC_5) (fun _ _ => rfl) rfl ?_
    refine R_callV (mc := 0) (ms := 0) (mc' := 0) (ms' := 0) (M' := M_X11_give) (d' := 0) (as := [vI (σ 5 1)]) (st := []) 11 1 e_X11_told_1.2.2.1 (kCVof m_X11_give l_X11_176) rfl (by decide) kx_0 (by decide) (by decide) rfl rfl (by show (0 : Nat) ≤ 8; decide) ?_
    refine S_X11_give ?_
    refine R_eqs (st2 := [vI (σ 5 1)]) (σ2 := (kup σ 0 0 0)) rfl rfl ?_
    exact R_ireturn e_X11_told_1.2.2.2.1 rfl h
  by_cases t2 : l1 = 2
  · refine R_tableIn 84 e_X11_told_0.2.1 q1 (by omega) (by omega) (off := 83) (by rw [t2]; rfl) (by decide) ?_
    replace h := h.2.2.1 t2
    refine R_aload_n e_X11_told_1.2.2.2.2.1 0 rfl ?_
    refine R_aload_n e_X11_told_1.2.2.2.2.2.1 0 rfl ?_
    refine R_getA 11 7 5 e_X11_told_1.2.2.2.2.2.2.1 f_X11_43 kx_0 (fun _ _ => rfl) rx_0_7 (by decide) ?_
    refine R_getI 0 5 5 e_X11_told_1.2.2.2.2.2.2.2.1 f_X11_173 (kC_self isC_5) (fun _ _ => rfl) rfl ?_
    refine R_callV (mc := 0) (ms := 0) (mc' := 0) (ms' := 0) (M' := M_X11_give) (d' := 0) (as := [vI (σ 5 5)]) (st := []) 11 1 e_X11_told_1.2.2.2.2.2.2.2.2.1 (kCVof m_X11_give l_X11_176) rfl (by decide) kx_0 (by decide) (by decide) rfl rfl (by show (0 : Nat) ≤ 8; decide) ?_
    refine S_X11_give ?_
    refine R_eqs (st2 := [vI (σ 5 5)]) (σ2 := (kup σ 0 0 0)) rfl rfl ?_
    exact R_ireturn e_X11_told_1.2.2.2.2.2.2.2.2.2 rfl h
  by_cases t3 : l1 = 3
  · refine R_tableIn 96 e_X11_told_0.2.1 q1 (by omega) (by omega) (off := 95) (by rw [t3]; rfl) (by decide) ?_
    replace h := h.2.2.2.1 t3
    refine R_aload_n e_X11_told_2.1 0 rfl ?_
    refine R_aload_n e_X11_told_2.2.1 0 rfl ?_
    refine R_getA 11 7 5 e_X11_told_2.2.2.1 f_X11_43 kx_0 (fun _ _ => rfl) rx_0_7 (by decide) ?_
    refine R_getI 0 6 6 e_X11_told_2.2.2.2.1 f_X11_200 (kC_self isC_5) (fun _ _ => rfl) rfl ?_
    refine R_callV (mc := 0) (ms := 0) (mc' := 0) (ms' := 0) (M' := M_X11_give) (d' := 0) (as := [vI (σ 5 6)]) (st := []) 11 1 e_X11_told_2.2.2.2.2.1 (kCVof m_X11_give l_X11_176) rfl (by decide) kx_0 (by decide) (by decide) rfl rfl (by show (0 : Nat) ≤ 8; decide) ?_
    refine S_X11_give ?_
    refine R_eqs (st2 := [vI (σ 5 6)]) (σ2 := (kup σ 0 0 0)) rfl rfl ?_
    exact R_ireturn e_X11_told_2.2.2.2.2.2.1 rfl h
  by_cases t4 : l1 = 4
  · refine R_tableIn 108 e_X11_told_0.2.1 q1 (by omega) (by omega) (off := 107) (by rw [t4]; rfl) (by decide) ?_
    replace h := h.2.2.2.2.1 t4
    refine R_aload_n e_X11_told_2.2.2.2.2.2.2.1 0 rfl ?_
    refine R_aload_n e_X11_told_2.2.2.2.2.2.2.2.1 0 rfl ?_
    refine R_getA 11 7 5 e_X11_told_2.2.2.2.2.2.2.2.2.1 f_X11_43 kx_0 (fun _ _ => rfl) rx_0_7 (by decide) ?_
    refine R_getI 0 7 7 e_X11_told_2.2.2.2.2.2.2.2.2.2 f_X11_203 (kC_self isC_5) (fun _ _ => rfl) rfl ?_
    refine R_callV (mc := 0) (ms := 0) (mc' := 0) (ms' := 0) (M' := M_X11_give) (d' := 0) (as := [vI (σ 5 7)]) (st := []) 11 1 e_X11_told_3.1 (kCVof m_X11_give l_X11_176) rfl (by decide) kx_0 (by decide) (by decide) rfl rfl (by show (0 : Nat) ≤ 8; decide) ?_
    refine S_X11_give ?_
    refine R_eqs (st2 := [vI (σ 5 7)]) (σ2 := (kup σ 0 0 0)) rfl rfl ?_
    exact R_ireturn e_X11_told_3.2.1 rfl h
  by_cases t5 : l1 = 5
  · refine R_tableIn 120 e_X11_told_0.2.1 q1 (by omega) (by omega) (off := 119) (by rw [t5]; rfl) (by decide) ?_
    replace h := h.2.2.2.2.2.1 t5
    refine R_aload_n e_X11_told_3.2.2.1 0 rfl ?_
    refine R_aload_n e_X11_told_3.2.2.2.1 0 rfl ?_
    refine R_getA 11 7 5 e_X11_told_3.2.2.2.2.1 f_X11_43 kx_0 (fun _ _ => rfl) rx_0_7 (by decide) ?_
    refine R_getI 0 2 2 e_X11_told_3.2.2.2.2.2.1 f_X11_206 (kC_self isC_5) (fun _ _ => rfl) rfl ?_
    refine R_callV (mc := 0) (ms := 0) (mc' := 0) (ms' := 0) (M' := M_X11_give) (d' := 0) (as := [vI (σ 5 2)]) (st := []) 11 1 e_X11_told_3.2.2.2.2.2.2.1 (kCVof m_X11_give l_X11_176) rfl (by decide) kx_0 (by decide) (by decide) rfl rfl (by show (0 : Nat) ≤ 8; decide) ?_
    refine S_X11_give ?_
    refine R_eqs (st2 := [vI (σ 5 2)]) (σ2 := (kup σ 0 0 0)) rfl rfl ?_
    exact R_ireturn e_X11_told_3.2.2.2.2.2.2.2.1 rfl h
  by_cases t6 : l1 = 6
  · refine R_tableIn 132 e_X11_told_0.2.1 q1 (by omega) (by omega) (off := 131) (by rw [t6]; rfl) (by decide) ?_
    replace h := h.2.2.2.2.2.2.1 t6
    refine R_aload_n e_X11_told_3.2.2.2.2.2.2.2.2.1 0 rfl ?_
    refine R_aload_n e_X11_told_3.2.2.2.2.2.2.2.2.2 0 rfl ?_
    refine R_getA 11 7 5 e_X11_told_4.1 f_X11_43 kx_0 (fun _ _ => rfl) rx_0_7 (by decide) ?_
    refine R_getI 0 3 3 e_X11_told_4.2.1 f_X11_209 (kC_self isC_5) (fun _ _ => rfl) rfl ?_
    refine R_callV (mc := 0) (ms := 0) (mc' := 0) (ms' := 0) (M' := M_X11_give) (d' := 0) (as := [vI (σ 5 3)]) (st := []) 11 1 e_X11_told_4.2.2.1 (kCVof m_X11_give l_X11_176) rfl (by decide) kx_0 (by decide) (by decide) rfl rfl (by show (0 : Nat) ≤ 8; decide) ?_
    refine S_X11_give ?_
    refine R_eqs (st2 := [vI (σ 5 3)]) (σ2 := (kup σ 0 0 0)) rfl rfl ?_
    exact R_ireturn e_X11_told_4.2.2.2.1 rfl h
  by_cases t7 : l1 = 7
  · refine R_tableIn 144 e_X11_told_0.2.1 q1 (by omega) (by omega) (off := 143) (by rw [t7]; rfl) (by decide) ?_
    replace h := h.2.2.2.2.2.2.2.1 t7
    refine R_aload_n e_X11_told_4.2.2.2.2.1 0 rfl ?_
    refine R_aload_n e_X11_told_4.2.2.2.2.2.1 0 rfl ?_
    refine R_getA 11 7 5 e_X11_told_4.2.2.2.2.2.2.1 f_X11_43 kx_0 (fun _ _ => rfl) rx_0_7 (by decide) ?_
    refine R_getI 0 4 4 e_X11_told_4.2.2.2.2.2.2.2.1 f_X11_212 (kC_self isC_5) (fun _ _ => rfl) rfl ?_
    refine R_callV (mc := 0) (ms := 0) (mc' := 0) (ms' := 0) (M' := M_X11_give) (d' := 0) (as := [vI (σ 5 4)]) (st := []) 11 1 e_X11_told_4.2.2.2.2.2.2.2.2.1 (kCVof m_X11_give l_X11_176) rfl (by decide) kx_0 (by decide) (by decide) rfl rfl (by show (0 : Nat) ≤ 8; decide) ?_
    refine S_X11_give ?_
    refine R_eqs (st2 := [vI (σ 5 4)]) (σ2 := (kup σ 0 0 0)) rfl rfl ?_
    exact R_ireturn e_X11_told_4.2.2.2.2.2.2.2.2.2 rfl h
  by_cases t8 : l1 = 8
  · refine R_tableIn 156 e_X11_told_0.2.1 q1 (by omega) (by omega) (off := 155) (by rw [t8]; rfl) (by decide) ?_
    replace h := h.2.2.2.2.2.2.2.2.1 t8
    refine R_aload_n e_X11_told_5.1 0 rfl ?_
    refine R_callV (mc := 0) (ms := 0) (mc' := 0) (ms' := 0) (M' := M_X11_lookNow) (d' := 4) (as := []) (st := []) 11 0 e_X11_told_5.2.1 (kCVof m_X11_lookNow l_X11_215) rfl (by decide) kx_0 (by decide) (by decide) rfl rfl (by show (0 : Nat) ≤ 8; decide) ?_
    refine Run.mono h (fun r18 s19 h => ?_)
    refine R_eqs (st2 := []) rfl rfl ?_
    refine R_aload_n e_X11_told_5.2.2.1 0 rfl ?_
    refine R_aload_n e_X11_told_5.2.2.2.1 0 rfl ?_
    refine R_getA 11 10 58 e_X11_told_5.2.2.2.2.1 f_X11_64 kx_0 (fun _ _ => rfl) rx_0_10 (by decide) ?_
    refine R_getI 8 1 1 e_X11_told_5.2.2.2.2.2.1 f_X11_218 kx_58 (fun _ _ => rfl) rfl ?_
    refine R_callV (mc := 0) (ms := 0) (mc' := 0) (ms' := 0) (M' := M_X11_give) (d' := 0) (as := [vI (s19 58 1)]) (st := []) 11 1 e_X11_told_5.2.2.2.2.2.2.1 (kCVof m_X11_give l_X11_176) rfl (by decide) kx_0 (by decide) (by decide) rfl rfl (by show (0 : Nat) ≤ 8; decide) ?_
    refine S_X11_give ?_
    refine R_eqs (st2 := [vI (s19 58 1)]) (σ2 := (kup s19 0 0 0)) rfl rfl ?_
    exact R_ireturn e_X11_told_5.2.2.2.2.2.2.2.1 rfl h
  by_cases t9 : l1 = 9
  · refine R_tableIn 172 e_X11_told_0.2.1 q1 (by omega) (by omega) (off := 171) (by rw [t9]; rfl) (by decide) ?_
    replace h := h.2.2.2.2.2.2.2.2.2.1 t9
    refine R_aload_n e_X11_told_5.2.2.2.2.2.2.2.2.1 0 rfl ?_
    refine R_aload_n e_X11_told_5.2.2.2.2.2.2.2.2.2 0 rfl ?_
    refine R_getA 11 7 5 e_X11_told_6.1 f_X11_43 kx_0 (fun _ _ => rfl) rx_0_7 (by decide) ?_
    obtain ⟨q24, h⟩ := h
    refine R_callV (mc := 0) (ms := 0) (mc' := 0) (ms' := 0) (M' := M_X0_cutSet) (d' := 0) (as := []) (st := [vA G 0]) 0 0 e_X11_told_6.2.1 (kCVof m_X0_cutSet l_X11_221) rfl (by decide) (kC_self isC_5) (by decide) (by decide) rfl rfl (by show (1 : Nat) ≤ 8; decide) ?_
    refine Run.mono (P_X0_cutSet isC_5 q24) (fun rr ss e => ?_)
    obtain ⟨e1, e2⟩ := e
    refine R_eqs (st2 := [vI (kset (fun k => v (34 + 9 * k + 8) = 1) (v 2).toNat : Int), vA G 0]) (σ2 := σ) (by rw [e1]; rfl) e2 ?_
    refine R_callV (mc := 0) (ms := 0) (mc' := 0) (ms' := 0) (M' := M_X11_give) (d' := 0) (as := [vI (kset (fun k => v (34 + 9 * k + 8) = 1) (v 2).toNat : Int)]) (st := []) 11 1 e_X11_told_6.2.2.1 (kCVof m_X11_give l_X11_176) rfl (by decide) kx_0 (by decide) (by decide) rfl rfl (by show (0 : Nat) ≤ 8; decide) ?_
    refine S_X11_give ?_
    refine R_eqs (st2 := [vI (kset (fun k => v (34 + 9 * k + 8) = 1) (v 2).toNat : Int)]) (σ2 := (kup σ 0 0 0)) rfl rfl ?_
    exact R_ireturn e_X11_told_6.2.2.2.1 rfl h
  by_cases t10 : l1 = 10
  · refine R_tableIn 184 e_X11_told_0.2.1 q1 (by omega) (by omega) (off := 183) (by rw [t10]; rfl) (by decide) ?_
    replace h := h.2.2.2.2.2.2.2.2.2.2.1 t10
    refine R_aload_n e_X11_told_6.2.2.2.2.1 0 rfl ?_
    refine R_aload_n e_X11_told_6.2.2.2.2.2.1 0 rfl ?_
    refine R_getA 11 7 5 e_X11_told_6.2.2.2.2.2.2.1 f_X11_43 kx_0 (fun _ _ => rfl) rx_0_7 (by decide) ?_
    obtain ⟨q29, h⟩ := h
    refine R_callV (mc := 0) (ms := 0) (mc' := 0) (ms' := 0) (M' := M_X0_ripeSet) (d' := 1) (as := []) (st := [vA G 0]) 0 0 e_X11_told_6.2.2.2.2.2.2.2.1 (kCVof m_X0_ripeSet l_X11_225) rfl (by decide) (kC_self isC_5) (by decide) (by decide) rfl rfl (by show (1 : Nat) ≤ 8; decide) ?_
    refine Run.mono (P_X0_ripeSet isC_5 q29) (fun rr ss e => ?_)
    obtain ⟨e1, e2⟩ := e
    refine R_eqs (st2 := [vI (kset (fun i => v (88 + 4 * i + 2) ≤ v (88 + 4 * i + 3)) (v 3).toNat : Int), vA G 0]) (σ2 := σ) (by rw [e1]; rfl) e2 ?_
    refine R_callV (mc := 0) (ms := 0) (mc' := 0) (ms' := 0) (M' := M_X11_give) (d' := 0) (as := [vI (kset (fun i => v (88 + 4 * i + 2) ≤ v (88 + 4 * i + 3)) (v 3).toNat : Int)]) (st := []) 11 1 e_X11_told_6.2.2.2.2.2.2.2.2.1 (kCVof m_X11_give l_X11_176) rfl (by decide) kx_0 (by decide) (by decide) rfl rfl (by show (0 : Nat) ≤ 8; decide) ?_
    refine S_X11_give ?_
    refine R_eqs (st2 := [vI (kset (fun i => v (88 + 4 * i + 2) ≤ v (88 + 4 * i + 3)) (v 3).toNat : Int)]) (σ2 := (kup σ 0 0 0)) rfl rfl ?_
    exact R_ireturn e_X11_told_6.2.2.2.2.2.2.2.2.2 rfl h
  refine R_tableOut 196 e_X11_told_0.2.1 q1 (by omega) (by decide) ?_
  replace h := h.2.2.2.2.2.2.2.2.2.2.2 (by omega)
  refine R_aload_n e_X11_told_7.1 0 rfl ?_
  refine R_iconst e_X11_told_7.2.1 ?_
  refine R_callV (mc := 0) (ms := 0) (mc' := 0) (ms' := 0) (M' := M_X11_deny) (d' := 0) (as := [vI 1]) (st := []) 11 1 e_X11_told_7.2.2.1 (kCVof m_X11_deny l_X11_132) rfl (by decide) kx_0 (by decide) (by decide) rfl rfl (by show (0 : Nat) ≤ 8; decide) ?_
  refine S_X11_deny ?_
  refine R_eqs (st2 := [vI (-1)]) (σ2 := (kup σ 0 0 1)) rfl rfl ?_
  exact R_ireturn e_X11_told_7.2.2.2 rfl h
/-! KiteLand.wind(II)I -/
theorem e_X11_wind_0 : decode cX11_wind 0 = .ok (.aload_n 0, 1) ∧ decode cX11_wind 1 = .ok (.iload_n 1, 1) ∧ decode cX11_wind 2 = .ok (.invokevirtual 228, 3) ∧ decode cX11_wind 5 = .ok (.ifCond .eq 12, 3) ∧ decode cX11_wind 8 = .ok (.iload_n 2, 1) ∧ decode cX11_wind 9 = .ok (.ifCond .lt 8, 3) ∧ decode cX11_wind 12 = .ok (.iload_n 2, 1) ∧ decode cX11_wind 13 = .ok (.iconst 1, 1) ∧ decode cX11_wind 14 = .ok (.if_icmp .le 9, 3) ∧ decode cX11_wind 17 = .ok (.aload_n 0, 1) := by decide +kernel
theorem e_X11_wind_1 : decode cX11_wind 18 = .ok (.iconst 1, 1) ∧ decode cX11_wind 19 = .ok (.invokevirtual 132, 3) ∧ decode cX11_wind 22 = .ok (.ireturn, 1) ∧ decode cX11_wind 23 = .ok (.aload_n 0, 1) ∧ decode cX11_wind 24 = .ok (.iload_n 2, 1) ∧ decode cX11_wind 25 = .ok (.ifCond .ne 15, 3) ∧ decode cX11_wind 28 = .ok (.aload_n 0, 1) ∧ decode cX11_wind 29 = .ok (.getfield 43, 3) ∧ decode cX11_wind 32 = .ok (.getfield 231, 3) ∧ decode cX11_wind 35 = .ok (.iload_n 1, 1) := by decide +kernel
theorem e_X11_wind_2 : decode cX11_wind 36 = .ok (.iaload, 1) ∧ decode cX11_wind 37 = .ok (.goto 12, 3) ∧ decode cX11_wind 40 = .ok (.aload_n 0, 1) ∧ decode cX11_wind 41 = .ok (.getfield 43, 3) ∧ decode cX11_wind 44 = .ok (.getfield 235, 3) ∧ decode cX11_wind 47 = .ok (.iload_n 1, 1) ∧ decode cX11_wind 48 = .ok (.iaload, 1) ∧ decode cX11_wind 49 = .ok (.invokevirtual 176, 3) ∧ decode cX11_wind 52 = .ok (.ireturn, 1) := by decide +kernel
theorem S_X11_wind {G : Kg} {σ : Kmem} {Q : Int → Kmem → Prop} {l1 l2 : Int}  (h : (rI (l1)) ∧ ((¬ (sHr (l1)) → Q (-1) (kup σ 0 0 1)) ∧ ((sHr (l1)) → (rI l2) ∧ ((l2 < 0 → Q (-1) (kup σ 0 0 1)) ∧ (0 ≤ l2 → ((l2 ≤ 1 → ((l2 ≠ 0 → (0 ≤ l1 ∧ l1 < 12) ∧ Q (σ (5 + 2) l1) (kup σ 0 0 0)) ∧ (l2 = 0 → (0 ≤ l1 ∧ l1 < 12) ∧ Q (σ (5 + 1) l1) (kup σ 0 0 0)))) ∧ (1 < l2 → Q (-1) (kup σ 0 0 1)))))))) : Run G WX M_X11_wind 1 0 0 [vA G 0, vI l1, vI l2] σ Q := by
  refine Run.of (by decide +kernel) (by show (3 : Nat) ≤ 3; decide) ?_
  show Ex G WX M_X11_wind 1 0 0 0 [(0, vA G 0), (1, vI l1), (2, vI l2)] [] σ Q
  refine R_aload_n e_X11_wind_0.1 0 rfl ?_
  refine R_iload_n e_X11_wind_0.2.1 1 rfl ?_
  obtain ⟨q3, h⟩ := h
  refine R_callV (mc := 0) (ms := 0) (mc' := 0) (ms' := 0) (M' := M_X11_isHourOfDay) (d' := 0) (as := [vI l1]) (st := []) 11 1 e_X11_wind_0.2.2.1 (kCVof m_X11_isHourOfDay l_X11_228) rfl (by decide) kx_0 (by decide) (by decide) rfl rfl (by show (0 : Nat) ≤ 8; decide) ?_
  refine Run.mono (P_X11_isHourOfDay q3) (fun rr ss e => ?_)
  obtain ⟨e1, e2⟩ := e
  refine R_eqs (st2 := [vI (kb (sHr (l1)))]) (σ2 := σ) (by rw [e1]; rfl) e2 ?_
  refine R_if_eq 17 e_X11_wind_0.2.2.2.1 (by decide) (kb_r _) (fun q => ?_) (fun q => ?_)
  · replace h := h.1 (kb_f q)
    refine R_aload_n e_X11_wind_0.2.2.2.2.2.2.2.2.2 0 rfl ?_
    refine R_iconst e_X11_wind_1.1 ?_
    refine R_callV (mc := 0) (ms := 0) (mc' := 0) (ms' := 0) (M' := M_X11_deny) (d' := 0) (as := [vI 1]) (st := []) 11 1 e_X11_wind_1.2.1 (kCVof m_X11_deny l_X11_132) rfl (by decide) kx_0 (by decide) (by decide) rfl rfl (by show (0 : Nat) ≤ 8; decide) ?_
    refine S_X11_deny ?_
    refine R_eqs (st2 := [vI (-1)]) (σ2 := (kup σ 0 0 1)) rfl rfl ?_
    exact R_ireturn e_X11_wind_1.2.2.1 rfl h
  · replace h := h.2 (kb_t q)
    refine R_iload_n e_X11_wind_0.2.2.2.2.1 2 rfl ?_
    obtain ⟨q6, h⟩ := h
    refine R_if_lt 17 e_X11_wind_0.2.2.2.2.2.1 (by decide) q6  (fun q => ?_) (fun q => ?_)
    · replace h := h.1 q
      refine R_aload_n e_X11_wind_0.2.2.2.2.2.2.2.2.2 0 rfl ?_
      refine R_iconst e_X11_wind_1.1 ?_
      refine R_callV (mc := 0) (ms := 0) (mc' := 0) (ms' := 0) (M' := M_X11_deny) (d' := 0) (as := [vI 1]) (st := []) 11 1 e_X11_wind_1.2.1 (kCVof m_X11_deny l_X11_132) rfl (by decide) kx_0 (by decide) (by decide) rfl rfl (by show (0 : Nat) ≤ 8; decide) ?_
      refine S_X11_deny ?_
      refine R_eqs (st2 := [vI (-1)]) (σ2 := (kup σ 0 0 1)) rfl rfl ?_
      exact R_ireturn e_X11_wind_1.2.2.1 rfl h
    · replace h := h.2 q
      refine R_iload_n e_X11_wind_0.2.2.2.2.2.2.1 2 rfl ?_
      refine R_iconst e_X11_wind_0.2.2.2.2.2.2.2.1 ?_
      refine R_icmp_le 23 e_X11_wind_0.2.2.2.2.2.2.2.2.1 (by decide) q6 (by decide) (fun q => ?_) (fun q => ?_)
      · replace h := h.1 q
        refine R_aload_n e_X11_wind_1.2.2.2.1 0 rfl ?_
        refine R_iload_n e_X11_wind_1.2.2.2.2.1 2 rfl ?_
        refine R_if_ne 40 e_X11_wind_1.2.2.2.2.2.1 (by decide) q6  (fun q => ?_) (fun q => ?_)
        · replace h := h.1 q
          refine R_aload_n e_X11_wind_2.2.2.1 0 rfl ?_
          refine R_getA 11 7 5 e_X11_wind_2.2.2.2.1 f_X11_43 kx_0 (fun _ _ => rfl) rx_0_7 (by decide) ?_
          refine R_getA 0 9 (5 + 2) e_X11_wind_2.2.2.2.2.1 f_X11_235 (kC_self isC_5) (fun _ _ => rfl) (kC_r9 isC_5) (kC_n2 isC_5) ?_
          refine R_iload_n e_X11_wind_2.2.2.2.2.2.1 1 rfl ?_
          obtain ⟨q9, h⟩ := h
          refine R_iald 12 e_X11_wind_2.2.2.2.2.2.2.1 (kC_forces isC_5) q9 ?_
          refine R_callV (mc := 0) (ms := 0) (mc' := 0) (ms' := 0) (M' := M_X11_give) (d' := 0) (as := [vI (σ (5 + 2) l1)]) (st := []) 11 1 e_X11_wind_2.2.2.2.2.2.2.2.1 (kCVof m_X11_give l_X11_176) rfl (by decide) kx_0 (by decide) (by decide) rfl rfl (by show (0 : Nat) ≤ 8; decide) ?_
          refine S_X11_give ?_
          refine R_eqs (st2 := [vI (σ (5 + 2) l1)]) (σ2 := (kup σ 0 0 0)) rfl rfl ?_
          exact R_ireturn e_X11_wind_2.2.2.2.2.2.2.2.2 rfl h
        · replace h := h.2 q
          refine R_aload_n e_X11_wind_1.2.2.2.2.2.2.1 0 rfl ?_
          refine R_getA 11 7 5 e_X11_wind_1.2.2.2.2.2.2.2.1 f_X11_43 kx_0 (fun _ _ => rfl) rx_0_7 (by decide) ?_
          refine R_getA 0 8 (5 + 1) e_X11_wind_1.2.2.2.2.2.2.2.2.1 f_X11_231 (kC_self isC_5) (fun _ _ => rfl) (kC_r8 isC_5) (kC_n1 isC_5) ?_
          refine R_iload_n e_X11_wind_1.2.2.2.2.2.2.2.2.2 1 rfl ?_
          obtain ⟨q12, h⟩ := h
          refine R_iald 12 e_X11_wind_2.1 (kC_dirs isC_5) q12 ?_
          refine R_goto 49 e_X11_wind_2.2.1 (by decide) ?_
          refine R_callV (mc := 0) (ms := 0) (mc' := 0) (ms' := 0) (M' := M_X11_give) (d' := 0) (as := [vI (σ (5 + 1) l1)]) (st := []) 11 1 e_X11_wind_2.2.2.2.2.2.2.2.1 (kCVof m_X11_give l_X11_176) rfl (by decide) kx_0 (by decide) (by decide) rfl rfl (by show (0 : Nat) ≤ 8; decide) ?_
          refine S_X11_give ?_
          refine R_eqs (st2 := [vI (σ (5 + 1) l1)]) (σ2 := (kup σ 0 0 0)) rfl rfl ?_
          exact R_ireturn e_X11_wind_2.2.2.2.2.2.2.2.2 rfl h
      · replace h := h.2 q
        refine R_aload_n e_X11_wind_0.2.2.2.2.2.2.2.2.2 0 rfl ?_
        refine R_iconst e_X11_wind_1.1 ?_
        refine R_callV (mc := 0) (ms := 0) (mc' := 0) (ms' := 0) (M' := M_X11_deny) (d' := 0) (as := [vI 1]) (st := []) 11 1 e_X11_wind_1.2.1 (kCVof m_X11_deny l_X11_132) rfl (by decide) kx_0 (by decide) (by decide) rfl rfl (by show (0 : Nat) ≤ 8; decide) ?_
        refine S_X11_deny ?_
        refine R_eqs (st2 := [vI (-1)]) (σ2 := (kup σ 0 0 1)) rfl rfl ?_
        exact R_ireturn e_X11_wind_1.2.2.1 rfl h
/-! KiteLand.kite(II)I -/
theorem e_X11_kite_0 : decode cX11_kite 0 = .ok (.aload_n 0, 1) ∧ decode cX11_kite 1 = .ok (.getfield 43, 3) ∧ decode cX11_kite 4 = .ok (.iload_n 1, 1) ∧ decode cX11_kite 5 = .ok (.invokevirtual 238, 3) ∧ decode cX11_kite 8 = .ok (.ifCond .ne 9, 3) ∧ decode cX11_kite 11 = .ok (.aload_n 0, 1) ∧ decode cX11_kite 12 = .ok (.iconst 1, 1) ∧ decode cX11_kite 13 = .ok (.invokevirtual 132, 3) ∧ decode cX11_kite 16 = .ok (.ireturn, 1) ∧ decode cX11_kite 17 = .ok (.aload_n 0, 1) := by decide +kernel
theorem e_X11_kite_1 : decode cX11_kite 18 = .ok (.getfield 43, 3) ∧ decode cX11_kite 21 = .ok (.getfield 241, 3) ∧ decode cX11_kite 24 = .ok (.iload_n 1, 1) ∧ decode cX11_kite 25 = .ok (.aaload, 1) ∧ decode cX11_kite 26 = .ok (.astore_n 3, 1) ∧ decode cX11_kite 27 = .ok (.iload_n 2, 1) ∧ decode cX11_kite 28 = .ok (.tableswitch 120 0 7 #[48, 57, 66, 75, 84, 93, 102, 111], 48) ∧ decode cX11_kite 76 = .ok (.aload_n 0, 1) ∧ decode cX11_kite 77 = .ok (.aload_n 3, 1) ∧ decode cX11_kite 78 = .ok (.getfield 245, 3) := by decide +kernel
theorem e_X11_kite_2 : decode cX11_kite 81 = .ok (.invokevirtual 176, 3) ∧ decode cX11_kite 84 = .ok (.ireturn, 1) ∧ decode cX11_kite 85 = .ok (.aload_n 0, 1) ∧ decode cX11_kite 86 = .ok (.aload_n 3, 1) ∧ decode cX11_kite 87 = .ok (.getfield 250, 3) ∧ decode cX11_kite 90 = .ok (.invokevirtual 176, 3) ∧ decode cX11_kite 93 = .ok (.ireturn, 1) ∧ decode cX11_kite 94 = .ok (.aload_n 0, 1) ∧ decode cX11_kite 95 = .ok (.aload_n 3, 1) ∧ decode cX11_kite 96 = .ok (.getfield 253, 3) := by decide +kernel
theorem e_X11_kite_3 : decode cX11_kite 99 = .ok (.invokevirtual 176, 3) ∧ decode cX11_kite 102 = .ok (.ireturn, 1) ∧ decode cX11_kite 103 = .ok (.aload_n 0, 1) ∧ decode cX11_kite 104 = .ok (.aload_n 3, 1) ∧ decode cX11_kite 105 = .ok (.getfield 256, 3) ∧ decode cX11_kite 108 = .ok (.invokevirtual 176, 3) ∧ decode cX11_kite 111 = .ok (.ireturn, 1) ∧ decode cX11_kite 112 = .ok (.aload_n 0, 1) ∧ decode cX11_kite 113 = .ok (.aload_n 3, 1) ∧ decode cX11_kite 114 = .ok (.getfield 259, 3) := by decide +kernel
theorem e_X11_kite_4 : decode cX11_kite 117 = .ok (.invokevirtual 176, 3) ∧ decode cX11_kite 120 = .ok (.ireturn, 1) ∧ decode cX11_kite 121 = .ok (.aload_n 0, 1) ∧ decode cX11_kite 122 = .ok (.aload_n 3, 1) ∧ decode cX11_kite 123 = .ok (.getfield 262, 3) ∧ decode cX11_kite 126 = .ok (.invokevirtual 176, 3) ∧ decode cX11_kite 129 = .ok (.ireturn, 1) ∧ decode cX11_kite 130 = .ok (.aload_n 0, 1) ∧ decode cX11_kite 131 = .ok (.aload_n 3, 1) ∧ decode cX11_kite 132 = .ok (.getfield 265, 3) := by decide +kernel
theorem e_X11_kite_5 : decode cX11_kite 135 = .ok (.invokevirtual 176, 3) ∧ decode cX11_kite 138 = .ok (.ireturn, 1) ∧ decode cX11_kite 139 = .ok (.aload_n 0, 1) ∧ decode cX11_kite 140 = .ok (.aload_n 3, 1) ∧ decode cX11_kite 141 = .ok (.getfield 268, 3) ∧ decode cX11_kite 144 = .ok (.invokevirtual 176, 3) ∧ decode cX11_kite 147 = .ok (.ireturn, 1) ∧ decode cX11_kite 148 = .ok (.aload_n 0, 1) ∧ decode cX11_kite 149 = .ok (.iconst 1, 1) ∧ decode cX11_kite 150 = .ok (.invokevirtual 132, 3) := by decide +kernel
theorem e_X11_kite_6 : decode cX11_kite 153 = .ok (.ireturn, 1) := by decide +kernel
theorem S_X11_kite {G : Kg} {σ : Kmem} {Q : Int → Kmem → Prop} {l1 l2 : Int} {v : Int → Int}  (h : (wf v ∧ kco σ 5 v ∧ rI (l1)) ∧ (((sKt v (l1)) → (0 ≤ l1 ∧ l1 < 6) ∧ (rI l2) ∧ ((l2 = 0 → Q (σ (5 + 6 + l1) 1) (kup σ 0 0 0)) ∧ (l2 = 1 → Q (σ (5 + 6 + l1) 2) (kup σ 0 0 0)) ∧ (l2 = 2 → Q (σ (5 + 6 + l1) 3) (kup σ 0 0 0)) ∧ (l2 = 3 → Q (σ (5 + 6 + l1) 4) (kup σ 0 0 0)) ∧ (l2 = 4 → Q (σ (5 + 6 + l1) 5) (kup σ 0 0 0)) ∧ (l2 = 5 → Q (σ (5 + 6 + l1) 7) (kup σ 0 0 0)) ∧ (l2 = 6 → Q (σ (5 + 6 + l1) 8) (kup σ 0 0 0)) ∧ (l2 = 7 → Q (σ (5 + 6 + l1) 6) (kup σ 0 0 0)) ∧ (l2 < 0 ∨ 7 < l2 → Q (-1) (kup σ 0 0 1)))) ∧ (¬ (sKt v (l1)) → Q (-1) (kup σ 0 0 1)))) : Run G WX M_X11_kite 1 0 0 [vA G 0, vI l1, vI l2] σ Q := by
  refine Run.of (by decide +kernel) (by show (3 : Nat) ≤ 4; decide) ?_
  show Ex G WX M_X11_kite 1 0 0 0 [(0, vA G 0), (1, vI l1), (2, vI l2)] [] σ Q
  refine R_aload_n e_X11_kite_0.1 0 rfl ?_
  refine R_getA 11 7 5 e_X11_kite_0.2.1 f_X11_43 kx_0 (fun _ _ => rfl) rx_0_7 (by decide) ?_
  refine R_iload_n e_X11_kite_0.2.2.1 1 rfl ?_
  obtain ⟨q3, h⟩ := h
  refine R_callV (mc := 0) (ms := 0) (mc' := 0) (ms' := 0) (M' := M_X0_hasKite) (d' := 0) (as := [vI l1]) (st := []) 0 1 e_X11_kite_0.2.2.2.1 (kCVof m_X0_hasKite l_X11_238) rfl (by decide) (kC_self isC_5) (by decide) (by decide) rfl rfl (by show (0 : Nat) ≤ 8; decide) ?_
  refine Run.mono (P_X0_hasKite isC_5 q3) (fun rr ss e => ?_)
  obtain ⟨e1, e2⟩ := e
  refine R_eqs (st2 := [vI (kb (sKt v (l1)))]) (σ2 := σ) (by rw [e1]; rfl) e2 ?_
  refine R_if_ne 17 e_X11_kite_0.2.2.2.2.1 (by decide) (kb_r _) (fun q => ?_) (fun q => ?_)
  · replace h := h.1 (kb_t q)
    refine R_aload_n e_X11_kite_0.2.2.2.2.2.2.2.2.2 0 rfl ?_
    refine R_getA 11 7 5 e_X11_kite_1.1 f_X11_43 kx_0 (fun _ _ => rfl) rx_0_7 (by decide) ?_
    refine R_getA 0 10 (5 + 3) e_X11_kite_1.2.1 f_X11_241 (kC_self isC_5) (fun _ _ => rfl) (kC_r10 isC_5) (kC_n3 isC_5) ?_
    refine R_iload_n e_X11_kite_1.2.2.1 1 rfl ?_
    obtain ⟨q4, h⟩ := h
    refine R_aald 27 6 (5 + 6 + l1) e_X11_kite_1.2.2.2.1 (by decide) (kC_kites isC_5) q4 (kC_kiteAt isC_5 q4) (kC_kiteN isC_5 q4) ?_
    refine R_astore_n (ls2 := [(3, vA G (5 + 6 + l1)), (0, vA G 0), (1, vI l1), (2, vI l2)]) e_X11_kite_1.2.2.2.2.1 (by decide) rfl ?_
    refine R_iload_n e_X11_kite_1.2.2.2.2.2.1 3 rfl ?_
    obtain ⟨q5, h⟩ := h
    by_cases t0 : l2 = 0
    · refine R_tableIn 76 e_X11_kite_1.2.2.2.2.2.2.1 q5 (by omega) (by omega) (off := 48) (by rw [t0]; rfl) (by decide) ?_
      replace h := h.1 t0
      refine R_aload_n e_X11_kite_1.2.2.2.2.2.2.2.1 1 rfl ?_
      refine R_aload_n e_X11_kite_1.2.2.2.2.2.2.2.2.1 0 rfl ?_
      refine R_getI 3 1 1 e_X11_kite_1.2.2.2.2.2.2.2.2.2 f_X11_245 (kC_kite isC_5 q4) (fun _ _ => rfl) rfl ?_
      refine R_callV (mc := 0) (ms := 0) (mc' := 0) (ms' := 0) (M' := M_X11_give) (d' := 0) (as := [vI (σ (5 + 6 + l1) 1)]) (st := []) 11 1 e_X11_kite_2.1 (kCVof m_X11_give l_X11_176) rfl (by decide) kx_0 (by decide) (by decide) rfl rfl (by show (0 : Nat) ≤ 8; decide) ?_
      refine S_X11_give ?_
      refine R_eqs (st2 := [vI (σ (5 + 6 + l1) 1)]) (σ2 := (kup σ 0 0 0)) rfl rfl ?_
      exact R_ireturn e_X11_kite_2.2.1 rfl h
    by_cases t1 : l2 = 1
    · refine R_tableIn 85 e_X11_kite_1.2.2.2.2.2.2.1 q5 (by omega) (by omega) (off := 57) (by rw [t1]; rfl) (by decide) ?_
      replace h := h.2.1 t1
      refine R_aload_n e_X11_kite_2.2.2.1 1 rfl ?_
      refine R_aload_n e_X11_kite_2.2.2.2.1 0 rfl ?_
      refine R_getI 3 2 2 e_X11_kite_2.2.2.2.2.1 f_X11_250 (kC_kite isC_5 q4) (fun _ _ => rfl) rfl ?_
      refine R_callV (mc := 0) (ms := 0) (mc' := 0) (ms' := 0) (M' := M_X11_give) (d' := 0) (as := [vI (σ (5 + 6 + l1) 2)]) (st := []) 11 1 e_X11_kite_2.2.2.2.2.2.1 (kCVof m_X11_give l_X11_176) rfl (by decide) kx_0 (by decide) (by decide) rfl rfl (by show (0 : Nat) ≤ 8; decide) ?_
      refine S_X11_give ?_
      refine R_eqs (st2 := [vI (σ (5 + 6 + l1) 2)]) (σ2 := (kup σ 0 0 0)) rfl rfl ?_
      exact R_ireturn e_X11_kite_2.2.2.2.2.2.2.1 rfl h
    by_cases t2 : l2 = 2
    · refine R_tableIn 94 e_X11_kite_1.2.2.2.2.2.2.1 q5 (by omega) (by omega) (off := 66) (by rw [t2]; rfl) (by decide) ?_
      replace h := h.2.2.1 t2
      refine R_aload_n e_X11_kite_2.2.2.2.2.2.2.2.1 1 rfl ?_
      refine R_aload_n e_X11_kite_2.2.2.2.2.2.2.2.2.1 0 rfl ?_
      refine R_getI 3 3 3 e_X11_kite_2.2.2.2.2.2.2.2.2.2 f_X11_253 (kC_kite isC_5 q4) (fun _ _ => rfl) rfl ?_
      refine R_callV (mc := 0) (ms := 0) (mc' := 0) (ms' := 0) (M' := M_X11_give) (d' := 0) (as := [vI (σ (5 + 6 + l1) 3)]) (st := []) 11 1 e_X11_kite_3.1 (kCVof m_X11_give l_X11_176) rfl (by decide) kx_0 (by decide) (by decide) rfl rfl (by show (0 : Nat) ≤ 8; decide) ?_
      refine S_X11_give ?_
      refine R_eqs (st2 := [vI (σ (5 + 6 + l1) 3)]) (σ2 := (kup σ 0 0 0)) rfl rfl ?_
      exact R_ireturn e_X11_kite_3.2.1 rfl h
    by_cases t3 : l2 = 3
    · refine R_tableIn 103 e_X11_kite_1.2.2.2.2.2.2.1 q5 (by omega) (by omega) (off := 75) (by rw [t3]; rfl) (by decide) ?_
      replace h := h.2.2.2.1 t3
      refine R_aload_n e_X11_kite_3.2.2.1 1 rfl ?_
      refine R_aload_n e_X11_kite_3.2.2.2.1 0 rfl ?_
      refine R_getI 3 4 4 e_X11_kite_3.2.2.2.2.1 f_X11_256 (kC_kite isC_5 q4) (fun _ _ => rfl) rfl ?_
      refine R_callV (mc := 0) (ms := 0) (mc' := 0) (ms' := 0) (M' := M_X11_give) (d' := 0) (as := [vI (σ (5 + 6 + l1) 4)]) (st := []) 11 1 e_X11_kite_3.2.2.2.2.2.1 (kCVof m_X11_give l_X11_176) rfl (by decide) kx_0 (by decide) (by decide) rfl rfl (by show (0 : Nat) ≤ 8; decide) ?_
      refine S_X11_give ?_
      refine R_eqs (st2 := [vI (σ (5 + 6 + l1) 4)]) (σ2 := (kup σ 0 0 0)) rfl rfl ?_
      exact R_ireturn e_X11_kite_3.2.2.2.2.2.2.1 rfl h
    by_cases t4 : l2 = 4
    · refine R_tableIn 112 e_X11_kite_1.2.2.2.2.2.2.1 q5 (by omega) (by omega) (off := 84) (by rw [t4]; rfl) (by decide) ?_
      replace h := h.2.2.2.2.1 t4
      refine R_aload_n e_X11_kite_3.2.2.2.2.2.2.2.1 1 rfl ?_
      refine R_aload_n e_X11_kite_3.2.2.2.2.2.2.2.2.1 0 rfl ?_
      refine R_getI 3 5 5 e_X11_kite_3.2.2.2.2.2.2.2.2.2 f_X11_259 (kC_kite isC_5 q4) (fun _ _ => rfl) rfl ?_
      refine R_callV (mc := 0) (ms := 0) (mc' := 0) (ms' := 0) (M' := M_X11_give) (d' := 0) (as := [vI (σ (5 + 6 + l1) 5)]) (st := []) 11 1 e_X11_kite_4.1 (kCVof m_X11_give l_X11_176) rfl (by decide) kx_0 (by decide) (by decide) rfl rfl (by show (0 : Nat) ≤ 8; decide) ?_
      refine S_X11_give ?_
      refine R_eqs (st2 := [vI (σ (5 + 6 + l1) 5)]) (σ2 := (kup σ 0 0 0)) rfl rfl ?_
      exact R_ireturn e_X11_kite_4.2.1 rfl h
    by_cases t5 : l2 = 5
    · refine R_tableIn 121 e_X11_kite_1.2.2.2.2.2.2.1 q5 (by omega) (by omega) (off := 93) (by rw [t5]; rfl) (by decide) ?_
      replace h := h.2.2.2.2.2.1 t5
      refine R_aload_n e_X11_kite_4.2.2.1 1 rfl ?_
      refine R_aload_n e_X11_kite_4.2.2.2.1 0 rfl ?_
      refine R_getI 3 7 7 e_X11_kite_4.2.2.2.2.1 f_X11_262 (kC_kite isC_5 q4) (fun _ _ => rfl) rfl ?_
      refine R_callV (mc := 0) (ms := 0) (mc' := 0) (ms' := 0) (M' := M_X11_give) (d' := 0) (as := [vI (σ (5 + 6 + l1) 7)]) (st := []) 11 1 e_X11_kite_4.2.2.2.2.2.1 (kCVof m_X11_give l_X11_176) rfl (by decide) kx_0 (by decide) (by decide) rfl rfl (by show (0 : Nat) ≤ 8; decide) ?_
      refine S_X11_give ?_
      refine R_eqs (st2 := [vI (σ (5 + 6 + l1) 7)]) (σ2 := (kup σ 0 0 0)) rfl rfl ?_
      exact R_ireturn e_X11_kite_4.2.2.2.2.2.2.1 rfl h
    by_cases t6 : l2 = 6
    · refine R_tableIn 130 e_X11_kite_1.2.2.2.2.2.2.1 q5 (by omega) (by omega) (off := 102) (by rw [t6]; rfl) (by decide) ?_
      replace h := h.2.2.2.2.2.2.1 t6
      refine R_aload_n e_X11_kite_4.2.2.2.2.2.2.2.1 1 rfl ?_
      refine R_aload_n e_X11_kite_4.2.2.2.2.2.2.2.2.1 0 rfl ?_
      refine R_getI 3 8 8 e_X11_kite_4.2.2.2.2.2.2.2.2.2 f_X11_265 (kC_kite isC_5 q4) (fun _ _ => rfl) rfl ?_
      refine R_callV (mc := 0) (ms := 0) (mc' := 0) (ms' := 0) (M' := M_X11_give) (d' := 0) (as := [vI (σ (5 + 6 + l1) 8)]) (st := []) 11 1 e_X11_kite_5.1 (kCVof m_X11_give l_X11_176) rfl (by decide) kx_0 (by decide) (by decide) rfl rfl (by show (0 : Nat) ≤ 8; decide) ?_
      refine S_X11_give ?_
      refine R_eqs (st2 := [vI (σ (5 + 6 + l1) 8)]) (σ2 := (kup σ 0 0 0)) rfl rfl ?_
      exact R_ireturn e_X11_kite_5.2.1 rfl h
    by_cases t7 : l2 = 7
    · refine R_tableIn 139 e_X11_kite_1.2.2.2.2.2.2.1 q5 (by omega) (by omega) (off := 111) (by rw [t7]; rfl) (by decide) ?_
      replace h := h.2.2.2.2.2.2.2.1 t7
      refine R_aload_n e_X11_kite_5.2.2.1 1 rfl ?_
      refine R_aload_n e_X11_kite_5.2.2.2.1 0 rfl ?_
      refine R_getI 3 6 6 e_X11_kite_5.2.2.2.2.1 f_X11_268 (kC_kite isC_5 q4) (fun _ _ => rfl) rfl ?_
      refine R_callV (mc := 0) (ms := 0) (mc' := 0) (ms' := 0) (M' := M_X11_give) (d' := 0) (as := [vI (σ (5 + 6 + l1) 6)]) (st := []) 11 1 e_X11_kite_5.2.2.2.2.2.1 (kCVof m_X11_give l_X11_176) rfl (by decide) kx_0 (by decide) (by decide) rfl rfl (by show (0 : Nat) ≤ 8; decide) ?_
      refine S_X11_give ?_
      refine R_eqs (st2 := [vI (σ (5 + 6 + l1) 6)]) (σ2 := (kup σ 0 0 0)) rfl rfl ?_
      exact R_ireturn e_X11_kite_5.2.2.2.2.2.2.1 rfl h
    refine R_tableOut 148 e_X11_kite_1.2.2.2.2.2.2.1 q5 (by omega) (by decide) ?_
    replace h := h.2.2.2.2.2.2.2.2 (by omega)
    refine R_aload_n e_X11_kite_5.2.2.2.2.2.2.2.1 1 rfl ?_
    refine R_iconst e_X11_kite_5.2.2.2.2.2.2.2.2.1 ?_
    refine R_callV (mc := 0) (ms := 0) (mc' := 0) (ms' := 0) (M' := M_X11_deny) (d' := 0) (as := [vI 1]) (st := []) 11 1 e_X11_kite_5.2.2.2.2.2.2.2.2.2 (kCVof m_X11_deny l_X11_132) rfl (by decide) kx_0 (by decide) (by decide) rfl rfl (by show (0 : Nat) ≤ 8; decide) ?_
    refine S_X11_deny ?_
    refine R_eqs (st2 := [vI (-1)]) (σ2 := (kup σ 0 0 1)) rfl rfl ?_
    exact R_ireturn e_X11_kite_6 rfl h
  · replace h := h.2 (kb_f q)
    refine R_aload_n e_X11_kite_0.2.2.2.2.2.1 0 rfl ?_
    refine R_iconst e_X11_kite_0.2.2.2.2.2.2.1 ?_
    refine R_callV (mc := 0) (ms := 0) (mc' := 0) (ms' := 0) (M' := M_X11_deny) (d' := 0) (as := [vI 1]) (st := []) 11 1 e_X11_kite_0.2.2.2.2.2.2.2.1 (kCVof m_X11_deny l_X11_132) rfl (by decide) kx_0 (by decide) (by decide) rfl rfl (by show (0 : Nat) ≤ 8; decide) ?_
    refine S_X11_deny ?_
    refine R_eqs (st2 := [vI (-1)]) (σ2 := (kup σ 0 0 1)) rfl rfl ?_
    exact R_ireturn e_X11_kite_0.2.2.2.2.2.2.2.2.1 rfl h
/-! KiteLand.crop(II)I -/
theorem e_X11_crop_0 : decode cX11_crop 0 = .ok (.aload_n 0, 1) ∧ decode cX11_crop 1 = .ok (.getfield 43, 3) ∧ decode cX11_crop 4 = .ok (.iload_n 1, 1) ∧ decode cX11_crop 5 = .ok (.invokevirtual 271, 3) ∧ decode cX11_crop 8 = .ok (.ifCond .ne 9, 3) ∧ decode cX11_crop 11 = .ok (.aload_n 0, 1) ∧ decode cX11_crop 12 = .ok (.iconst 1, 1) ∧ decode cX11_crop 13 = .ok (.invokevirtual 132, 3) ∧ decode cX11_crop 16 = .ok (.ireturn, 1) ∧ decode cX11_crop 17 = .ok (.aload_n 0, 1) := by decide +kernel
theorem e_X11_crop_1 : decode cX11_crop 18 = .ok (.getfield 43, 3) ∧ decode cX11_crop 21 = .ok (.getfield 274, 3) ∧ decode cX11_crop 24 = .ok (.iload_n 1, 1) ∧ decode cX11_crop 25 = .ok (.aaload, 1) ∧ decode cX11_crop 26 = .ok (.astore_n 3, 1) ∧ decode cX11_crop 27 = .ok (.iload_n 2, 1) ∧ decode cX11_crop 28 = .ok (.tableswitch 68 0 3 #[32, 41, 50, 59], 32) ∧ decode cX11_crop 60 = .ok (.aload_n 0, 1) ∧ decode cX11_crop 61 = .ok (.aload_n 3, 1) ∧ decode cX11_crop 62 = .ok (.getfield 278, 3) := by decide +kernel
theorem e_X11_crop_2 : decode cX11_crop 65 = .ok (.invokevirtual 176, 3) ∧ decode cX11_crop 68 = .ok (.ireturn, 1) ∧ decode cX11_crop 69 = .ok (.aload_n 0, 1) ∧ decode cX11_crop 70 = .ok (.aload_n 3, 1) ∧ decode cX11_crop 71 = .ok (.getfield 281, 3) ∧ decode cX11_crop 74 = .ok (.invokevirtual 176, 3) ∧ decode cX11_crop 77 = .ok (.ireturn, 1) ∧ decode cX11_crop 78 = .ok (.aload_n 0, 1) ∧ decode cX11_crop 79 = .ok (.aload_n 3, 1) ∧ decode cX11_crop 80 = .ok (.getfield 282, 3) := by decide +kernel
theorem e_X11_crop_3 : decode cX11_crop 83 = .ok (.invokevirtual 176, 3) ∧ decode cX11_crop 86 = .ok (.ireturn, 1) ∧ decode cX11_crop 87 = .ok (.aload_n 0, 1) ∧ decode cX11_crop 88 = .ok (.aload_n 3, 1) ∧ decode cX11_crop 89 = .ok (.getfield 285, 3) ∧ decode cX11_crop 92 = .ok (.invokevirtual 176, 3) ∧ decode cX11_crop 95 = .ok (.ireturn, 1) ∧ decode cX11_crop 96 = .ok (.aload_n 0, 1) ∧ decode cX11_crop 97 = .ok (.iconst 1, 1) ∧ decode cX11_crop 98 = .ok (.invokevirtual 132, 3) := by decide +kernel
theorem e_X11_crop_4 : decode cX11_crop 101 = .ok (.ireturn, 1) := by decide +kernel
theorem S_X11_crop {G : Kg} {σ : Kmem} {Q : Int → Kmem → Prop} {l1 l2 : Int} {v : Int → Int}  (h : (wf v ∧ kco σ 5 v ∧ rI (l1)) ∧ ((((0 : Int) ≤ l1 ∧ (l1 : Int) < v 3) → (0 ≤ l1 ∧ l1 < 8) ∧ (rI l2) ∧ ((l2 = 0 → Q (σ (5 + 12 + l1) 1) (kup σ 0 0 0)) ∧ (l2 = 1 → Q (σ (5 + 12 + l1) 2) (kup σ 0 0 0)) ∧ (l2 = 2 → Q (σ (5 + 12 + l1) 3) (kup σ 0 0 0)) ∧ (l2 = 3 → Q (σ (5 + 12 + l1) 4) (kup σ 0 0 0)) ∧ (l2 < 0 ∨ 3 < l2 → Q (-1) (kup σ 0 0 1)))) ∧ (¬ ((0 : Int) ≤ l1 ∧ (l1 : Int) < v 3) → Q (-1) (kup σ 0 0 1)))) : Run G WX M_X11_crop 1 0 0 [vA G 0, vI l1, vI l2] σ Q := by
  refine Run.of (by decide +kernel) (by show (3 : Nat) ≤ 4; decide) ?_
  show Ex G WX M_X11_crop 1 0 0 0 [(0, vA G 0), (1, vI l1), (2, vI l2)] [] σ Q
  refine R_aload_n e_X11_crop_0.1 0 rfl ?_
  refine R_getA 11 7 5 e_X11_crop_0.2.1 f_X11_43 kx_0 (fun _ _ => rfl) rx_0_7 (by decide) ?_
  refine R_iload_n e_X11_crop_0.2.2.1 1 rfl ?_
  obtain ⟨q3, h⟩ := h
  refine R_callV (mc := 0) (ms := 0) (mc' := 0) (ms' := 0) (M' := M_X0_hasCrop) (d' := 0) (as := [vI l1]) (st := []) 0 1 e_X11_crop_0.2.2.2.1 (kCVof m_X0_hasCrop l_X11_271) rfl (by decide) (kC_self isC_5) (by decide) (by decide) rfl rfl (by show (0 : Nat) ≤ 8; decide) ?_
  refine Run.mono (P_X0_hasCrop isC_5 q3) (fun rr ss e => ?_)
  obtain ⟨e1, e2⟩ := e
  refine R_eqs (st2 := [vI (kb ((0 : Int) ≤ l1 ∧ (l1 : Int) < v 3))]) (σ2 := σ) (by rw [e1]; rfl) e2 ?_
  refine R_if_ne 17 e_X11_crop_0.2.2.2.2.1 (by decide) (kb_r _) (fun q => ?_) (fun q => ?_)
  · replace h := h.1 (kb_t q)
    refine R_aload_n e_X11_crop_0.2.2.2.2.2.2.2.2.2 0 rfl ?_
    refine R_getA 11 7 5 e_X11_crop_1.1 f_X11_43 kx_0 (fun _ _ => rfl) rx_0_7 (by decide) ?_
    refine R_getA 0 11 (5 + 4) e_X11_crop_1.2.1 f_X11_274 (kC_self isC_5) (fun _ _ => rfl) (kC_r11 isC_5) (kC_n4 isC_5) ?_
    refine R_iload_n e_X11_crop_1.2.2.1 1 rfl ?_
    obtain ⟨q4, h⟩ := h
    refine R_aald 28 8 (5 + 12 + l1) e_X11_crop_1.2.2.2.1 (by decide) (kC_crops isC_5) q4 (kC_cropAt isC_5 q4) (kC_cropN isC_5 q4) ?_
    refine R_astore_n (ls2 := [(3, vA G (5 + 12 + l1)), (0, vA G 0), (1, vI l1), (2, vI l2)]) e_X11_crop_1.2.2.2.2.1 (by decide) rfl ?_
    refine R_iload_n e_X11_crop_1.2.2.2.2.2.1 3 rfl ?_
    obtain ⟨q5, h⟩ := h
    by_cases t0 : l2 = 0
    · refine R_tableIn 60 e_X11_crop_1.2.2.2.2.2.2.1 q5 (by omega) (by omega) (off := 32) (by rw [t0]; rfl) (by decide) ?_
      replace h := h.1 t0
      refine R_aload_n e_X11_crop_1.2.2.2.2.2.2.2.1 1 rfl ?_
      refine R_aload_n e_X11_crop_1.2.2.2.2.2.2.2.2.1 0 rfl ?_
      refine R_getI 2 1 1 e_X11_crop_1.2.2.2.2.2.2.2.2.2 f_X11_278 (kC_crop isC_5 q4) (fun _ _ => rfl) rfl ?_
      refine R_callV (mc := 0) (ms := 0) (mc' := 0) (ms' := 0) (M' := M_X11_give) (d' := 0) (as := [vI (σ (5 + 12 + l1) 1)]) (st := []) 11 1 e_X11_crop_2.1 (kCVof m_X11_give l_X11_176) rfl (by decide) kx_0 (by decide) (by decide) rfl rfl (by show (0 : Nat) ≤ 8; decide) ?_
      refine S_X11_give ?_
      refine R_eqs (st2 := [vI (σ (5 + 12 + l1) 1)]) (σ2 := (kup σ 0 0 0)) rfl rfl ?_
      exact R_ireturn e_X11_crop_2.2.1 rfl h
    by_cases t1 : l2 = 1
    · refine R_tableIn 69 e_X11_crop_1.2.2.2.2.2.2.1 q5 (by omega) (by omega) (off := 41) (by rw [t1]; rfl) (by decide) ?_
      replace h := h.2.1 t1
      refine R_aload_n e_X11_crop_2.2.2.1 1 rfl ?_
      refine R_aload_n e_X11_crop_2.2.2.2.1 0 rfl ?_
      refine R_getI 2 2 2 e_X11_crop_2.2.2.2.2.1 f_X11_281 (kC_crop isC_5 q4) (fun _ _ => rfl) rfl ?_
      refine R_callV (mc := 0) (ms := 0) (mc' := 0) (ms' := 0) (M' := M_X11_give) (d' := 0) (as := [vI (σ (5 + 12 + l1) 2)]) (st := []) 11 1 e_X11_crop_2.2.2.2.2.2.1 (kCVof m_X11_give l_X11_176) rfl (by decide) kx_0 (by decide) (by decide) rfl rfl (by show (0 : Nat) ≤ 8; decide) ?_
      refine S_X11_give ?_
      refine R_eqs (st2 := [vI (σ (5 + 12 + l1) 2)]) (σ2 := (kup σ 0 0 0)) rfl rfl ?_
      exact R_ireturn e_X11_crop_2.2.2.2.2.2.2.1 rfl h
    by_cases t2 : l2 = 2
    · refine R_tableIn 78 e_X11_crop_1.2.2.2.2.2.2.1 q5 (by omega) (by omega) (off := 50) (by rw [t2]; rfl) (by decide) ?_
      replace h := h.2.2.1 t2
      refine R_aload_n e_X11_crop_2.2.2.2.2.2.2.2.1 1 rfl ?_
      refine R_aload_n e_X11_crop_2.2.2.2.2.2.2.2.2.1 0 rfl ?_
      refine R_getI 2 3 3 e_X11_crop_2.2.2.2.2.2.2.2.2.2 f_X11_282 (kC_crop isC_5 q4) (fun _ _ => rfl) rfl ?_
      refine R_callV (mc := 0) (ms := 0) (mc' := 0) (ms' := 0) (M' := M_X11_give) (d' := 0) (as := [vI (σ (5 + 12 + l1) 3)]) (st := []) 11 1 e_X11_crop_3.1 (kCVof m_X11_give l_X11_176) rfl (by decide) kx_0 (by decide) (by decide) rfl rfl (by show (0 : Nat) ≤ 8; decide) ?_
      refine S_X11_give ?_
      refine R_eqs (st2 := [vI (σ (5 + 12 + l1) 3)]) (σ2 := (kup σ 0 0 0)) rfl rfl ?_
      exact R_ireturn e_X11_crop_3.2.1 rfl h
    by_cases t3 : l2 = 3
    · refine R_tableIn 87 e_X11_crop_1.2.2.2.2.2.2.1 q5 (by omega) (by omega) (off := 59) (by rw [t3]; rfl) (by decide) ?_
      replace h := h.2.2.2.1 t3
      refine R_aload_n e_X11_crop_3.2.2.1 1 rfl ?_
      refine R_aload_n e_X11_crop_3.2.2.2.1 0 rfl ?_
      refine R_getI 2 4 4 e_X11_crop_3.2.2.2.2.1 f_X11_285 (kC_crop isC_5 q4) (fun _ _ => rfl) rfl ?_
      refine R_callV (mc := 0) (ms := 0) (mc' := 0) (ms' := 0) (M' := M_X11_give) (d' := 0) (as := [vI (σ (5 + 12 + l1) 4)]) (st := []) 11 1 e_X11_crop_3.2.2.2.2.2.1 (kCVof m_X11_give l_X11_176) rfl (by decide) kx_0 (by decide) (by decide) rfl rfl (by show (0 : Nat) ≤ 8; decide) ?_
      refine S_X11_give ?_
      refine R_eqs (st2 := [vI (σ (5 + 12 + l1) 4)]) (σ2 := (kup σ 0 0 0)) rfl rfl ?_
      exact R_ireturn e_X11_crop_3.2.2.2.2.2.2.1 rfl h
    refine R_tableOut 96 e_X11_crop_1.2.2.2.2.2.2.1 q5 (by omega) (by decide) ?_
    replace h := h.2.2.2.2 (by omega)
    refine R_aload_n e_X11_crop_3.2.2.2.2.2.2.2.1 1 rfl ?_
    refine R_iconst e_X11_crop_3.2.2.2.2.2.2.2.2.1 ?_
    refine R_callV (mc := 0) (ms := 0) (mc' := 0) (ms' := 0) (M' := M_X11_deny) (d' := 0) (as := [vI 1]) (st := []) 11 1 e_X11_crop_3.2.2.2.2.2.2.2.2.2 (kCVof m_X11_deny l_X11_132) rfl (by decide) kx_0 (by decide) (by decide) rfl rfl (by show (0 : Nat) ≤ 8; decide) ?_
    refine S_X11_deny ?_
    refine R_eqs (st2 := [vI (-1)]) (σ2 := (kup σ 0 0 1)) rfl rfl ?_
    exact R_ireturn e_X11_crop_4 rfl h
  · replace h := h.2 (kb_f q)
    refine R_aload_n e_X11_crop_0.2.2.2.2.2.1 0 rfl ?_
    refine R_iconst e_X11_crop_0.2.2.2.2.2.2.1 ?_
    refine R_callV (mc := 0) (ms := 0) (mc' := 0) (ms' := 0) (M' := M_X11_deny) (d' := 0) (as := [vI 1]) (st := []) 11 1 e_X11_crop_0.2.2.2.2.2.2.2.1 (kCVof m_X11_deny l_X11_132) rfl (by decide) kx_0 (by decide) (by decide) rfl rfl (by show (0 : Nat) ≤ 8; decide) ?_
    refine S_X11_deny ?_
    refine R_eqs (st2 := [vI (-1)]) (σ2 := (kup σ 0 0 1)) rfl rfl ?_
    exact R_ireturn e_X11_crop_0.2.2.2.2.2.2.2.2.1 rfl h
/-! KiteLand.tenant(II)I -/
theorem e_X11_tenant_0 : decode cX11_tenant 0 = .ok (.aload_n 0, 1) ∧ decode cX11_tenant 1 = .ok (.getfield 43, 3) ∧ decode cX11_tenant 4 = .ok (.iload_n 1, 1) ∧ decode cX11_tenant 5 = .ok (.invokevirtual 288, 3) ∧ decode cX11_tenant 8 = .ok (.ifCond .ne 9, 3) ∧ decode cX11_tenant 11 = .ok (.aload_n 0, 1) ∧ decode cX11_tenant 12 = .ok (.iconst 1, 1) ∧ decode cX11_tenant 13 = .ok (.invokevirtual 132, 3) ∧ decode cX11_tenant 16 = .ok (.ireturn, 1) ∧ decode cX11_tenant 17 = .ok (.aload_n 0, 1) := by decide +kernel
theorem e_X11_tenant_1 : decode cX11_tenant 18 = .ok (.getfield 43, 3) ∧ decode cX11_tenant 21 = .ok (.getfield 291, 3) ∧ decode cX11_tenant 24 = .ok (.iload_n 1, 1) ∧ decode cX11_tenant 25 = .ok (.aaload, 1) ∧ decode cX11_tenant 26 = .ok (.astore_n 3, 1) ∧ decode cX11_tenant 27 = .ok (.iload_n 2, 1) ∧ decode cX11_tenant 28 = .ok (.tableswitch 81 0 4 #[36, 45, 54, 63, 72], 36) ∧ decode cX11_tenant 64 = .ok (.aload_n 0, 1) ∧ decode cX11_tenant 65 = .ok (.aload_n 3, 1) ∧ decode cX11_tenant 66 = .ok (.getfield 295, 3) := by decide +kernel
theorem e_X11_tenant_2 : decode cX11_tenant 69 = .ok (.invokevirtual 176, 3) ∧ decode cX11_tenant 72 = .ok (.ireturn, 1) ∧ decode cX11_tenant 73 = .ok (.aload_n 0, 1) ∧ decode cX11_tenant 74 = .ok (.aload_n 3, 1) ∧ decode cX11_tenant 75 = .ok (.getfield 298, 3) ∧ decode cX11_tenant 78 = .ok (.invokevirtual 176, 3) ∧ decode cX11_tenant 81 = .ok (.ireturn, 1) ∧ decode cX11_tenant 82 = .ok (.aload_n 0, 1) ∧ decode cX11_tenant 83 = .ok (.aload_n 3, 1) ∧ decode cX11_tenant 84 = .ok (.getfield 299, 3) := by decide +kernel
theorem e_X11_tenant_3 : decode cX11_tenant 87 = .ok (.invokevirtual 176, 3) ∧ decode cX11_tenant 90 = .ok (.ireturn, 1) ∧ decode cX11_tenant 91 = .ok (.aload_n 0, 1) ∧ decode cX11_tenant 92 = .ok (.aload_n 3, 1) ∧ decode cX11_tenant 93 = .ok (.getfield 302, 3) ∧ decode cX11_tenant 96 = .ok (.invokevirtual 176, 3) ∧ decode cX11_tenant 99 = .ok (.ireturn, 1) ∧ decode cX11_tenant 100 = .ok (.aload_n 0, 1) ∧ decode cX11_tenant 101 = .ok (.aload_n 3, 1) ∧ decode cX11_tenant 102 = .ok (.getfield 305, 3) := by decide +kernel
theorem e_X11_tenant_4 : decode cX11_tenant 105 = .ok (.invokevirtual 176, 3) ∧ decode cX11_tenant 108 = .ok (.ireturn, 1) ∧ decode cX11_tenant 109 = .ok (.aload_n 0, 1) ∧ decode cX11_tenant 110 = .ok (.iconst 1, 1) ∧ decode cX11_tenant 111 = .ok (.invokevirtual 132, 3) ∧ decode cX11_tenant 114 = .ok (.ireturn, 1) := by decide +kernel
theorem S_X11_tenant {G : Kg} {σ : Kmem} {Q : Int → Kmem → Prop} {l1 l2 : Int} {v : Int → Int}  (h : (wf v ∧ kco σ 5 v ∧ rI (l1)) ∧ ((((0 : Int) ≤ l1 ∧ (l1 : Int) < v 4) → (0 ≤ l1 ∧ l1 < 6) ∧ (rI l2) ∧ ((l2 = 0 → Q (σ (5 + 20 + l1) 1) (kup σ 0 0 0)) ∧ (l2 = 1 → Q (σ (5 + 20 + l1) 2) (kup σ 0 0 0)) ∧ (l2 = 2 → Q (σ (5 + 20 + l1) 3) (kup σ 0 0 0)) ∧ (l2 = 3 → Q (σ (5 + 20 + l1) 4) (kup σ 0 0 0)) ∧ (l2 = 4 → Q (σ (5 + 20 + l1) 5) (kup σ 0 0 0)) ∧ (l2 < 0 ∨ 4 < l2 → Q (-1) (kup σ 0 0 1)))) ∧ (¬ ((0 : Int) ≤ l1 ∧ (l1 : Int) < v 4) → Q (-1) (kup σ 0 0 1)))) : Run G WX M_X11_tenant 1 0 0 [vA G 0, vI l1, vI l2] σ Q := by
  refine Run.of (by decide +kernel) (by show (3 : Nat) ≤ 4; decide) ?_
  show Ex G WX M_X11_tenant 1 0 0 0 [(0, vA G 0), (1, vI l1), (2, vI l2)] [] σ Q
  refine R_aload_n e_X11_tenant_0.1 0 rfl ?_
  refine R_getA 11 7 5 e_X11_tenant_0.2.1 f_X11_43 kx_0 (fun _ _ => rfl) rx_0_7 (by decide) ?_
  refine R_iload_n e_X11_tenant_0.2.2.1 1 rfl ?_
  obtain ⟨q3, h⟩ := h
  refine R_callV (mc := 0) (ms := 0) (mc' := 0) (ms' := 0) (M' := M_X0_hasTenant) (d' := 0) (as := [vI l1]) (st := []) 0 1 e_X11_tenant_0.2.2.2.1 (kCVof m_X0_hasTenant l_X11_288) rfl (by decide) (kC_self isC_5) (by decide) (by decide) rfl rfl (by show (0 : Nat) ≤ 8; decide) ?_
  refine Run.mono (P_X0_hasTenant isC_5 q3) (fun rr ss e => ?_)
  obtain ⟨e1, e2⟩ := e
  refine R_eqs (st2 := [vI (kb ((0 : Int) ≤ l1 ∧ (l1 : Int) < v 4))]) (σ2 := σ) (by rw [e1]; rfl) e2 ?_
  refine R_if_ne 17 e_X11_tenant_0.2.2.2.2.1 (by decide) (kb_r _) (fun q => ?_) (fun q => ?_)
  · replace h := h.1 (kb_t q)
    refine R_aload_n e_X11_tenant_0.2.2.2.2.2.2.2.2.2 0 rfl ?_
    refine R_getA 11 7 5 e_X11_tenant_1.1 f_X11_43 kx_0 (fun _ _ => rfl) rx_0_7 (by decide) ?_
    refine R_getA 0 12 (5 + 5) e_X11_tenant_1.2.1 f_X11_291 (kC_self isC_5) (fun _ _ => rfl) (kC_r12 isC_5) (kC_n5 isC_5) ?_
    refine R_iload_n e_X11_tenant_1.2.2.1 1 rfl ?_
    obtain ⟨q4, h⟩ := h
    refine R_aald 29 6 (5 + 20 + l1) e_X11_tenant_1.2.2.2.1 (by decide) (kC_tens isC_5) q4 (kC_tenAt isC_5 q4) (kC_tenN isC_5 q4) ?_
    refine R_astore_n (ls2 := [(3, vA G (5 + 20 + l1)), (0, vA G 0), (1, vI l1), (2, vI l2)]) e_X11_tenant_1.2.2.2.2.1 (by decide) rfl ?_
    refine R_iload_n e_X11_tenant_1.2.2.2.2.2.1 3 rfl ?_
    obtain ⟨q5, h⟩ := h
    by_cases t0 : l2 = 0
    · refine R_tableIn 64 e_X11_tenant_1.2.2.2.2.2.2.1 q5 (by omega) (by omega) (off := 36) (by rw [t0]; rfl) (by decide) ?_
      replace h := h.1 t0
      refine R_aload_n e_X11_tenant_1.2.2.2.2.2.2.2.1 1 rfl ?_
      refine R_aload_n e_X11_tenant_1.2.2.2.2.2.2.2.2.1 0 rfl ?_
      refine R_getI 9 1 1 e_X11_tenant_1.2.2.2.2.2.2.2.2.2 f_X11_295 (kC_ten isC_5 q4) (fun _ _ => rfl) rfl ?_
      refine R_callV (mc := 0) (ms := 0) (mc' := 0) (ms' := 0) (M' := M_X11_give) (d' := 0) (as := [vI (σ (5 + 20 + l1) 1)]) (st := []) 11 1 e_X11_tenant_2.1 (kCVof m_X11_give l_X11_176) rfl (by decide) kx_0 (by decide) (by decide) rfl rfl (by show (0 : Nat) ≤ 8; decide) ?_
      refine S_X11_give ?_
      refine R_eqs (st2 := [vI (σ (5 + 20 + l1) 1)]) (σ2 := (kup σ 0 0 0)) rfl rfl ?_
      exact R_ireturn e_X11_tenant_2.2.1 rfl h
    by_cases t1 : l2 = 1
    · refine R_tableIn 73 e_X11_tenant_1.2.2.2.2.2.2.1 q5 (by omega) (by omega) (off := 45) (by rw [t1]; rfl) (by decide) ?_
      replace h := h.2.1 t1
      refine R_aload_n e_X11_tenant_2.2.2.1 1 rfl ?_
      refine R_aload_n e_X11_tenant_2.2.2.2.1 0 rfl ?_
      refine R_getI 9 2 2 e_X11_tenant_2.2.2.2.2.1 f_X11_298 (kC_ten isC_5 q4) (fun _ _ => rfl) rfl ?_
      refine R_callV (mc := 0) (ms := 0) (mc' := 0) (ms' := 0) (M' := M_X11_give) (d' := 0) (as := [vI (σ (5 + 20 + l1) 2)]) (st := []) 11 1 e_X11_tenant_2.2.2.2.2.2.1 (kCVof m_X11_give l_X11_176) rfl (by decide) kx_0 (by decide) (by decide) rfl rfl (by show (0 : Nat) ≤ 8; decide) ?_
      refine S_X11_give ?_
      refine R_eqs (st2 := [vI (σ (5 + 20 + l1) 2)]) (σ2 := (kup σ 0 0 0)) rfl rfl ?_
      exact R_ireturn e_X11_tenant_2.2.2.2.2.2.2.1 rfl h
    by_cases t2 : l2 = 2
    · refine R_tableIn 82 e_X11_tenant_1.2.2.2.2.2.2.1 q5 (by omega) (by omega) (off := 54) (by rw [t2]; rfl) (by decide) ?_
      replace h := h.2.2.1 t2
      refine R_aload_n e_X11_tenant_2.2.2.2.2.2.2.2.1 1 rfl ?_
      refine R_aload_n e_X11_tenant_2.2.2.2.2.2.2.2.2.1 0 rfl ?_
      refine R_getI 9 3 3 e_X11_tenant_2.2.2.2.2.2.2.2.2.2 f_X11_299 (kC_ten isC_5 q4) (fun _ _ => rfl) rfl ?_
      refine R_callV (mc := 0) (ms := 0) (mc' := 0) (ms' := 0) (M' := M_X11_give) (d' := 0) (as := [vI (σ (5 + 20 + l1) 3)]) (st := []) 11 1 e_X11_tenant_3.1 (kCVof m_X11_give l_X11_176) rfl (by decide) kx_0 (by decide) (by decide) rfl rfl (by show (0 : Nat) ≤ 8; decide) ?_
      refine S_X11_give ?_
      refine R_eqs (st2 := [vI (σ (5 + 20 + l1) 3)]) (σ2 := (kup σ 0 0 0)) rfl rfl ?_
      exact R_ireturn e_X11_tenant_3.2.1 rfl h
    by_cases t3 : l2 = 3
    · refine R_tableIn 91 e_X11_tenant_1.2.2.2.2.2.2.1 q5 (by omega) (by omega) (off := 63) (by rw [t3]; rfl) (by decide) ?_
      replace h := h.2.2.2.1 t3
      refine R_aload_n e_X11_tenant_3.2.2.1 1 rfl ?_
      refine R_aload_n e_X11_tenant_3.2.2.2.1 0 rfl ?_
      refine R_getI 9 4 4 e_X11_tenant_3.2.2.2.2.1 f_X11_302 (kC_ten isC_5 q4) (fun _ _ => rfl) rfl ?_
      refine R_callV (mc := 0) (ms := 0) (mc' := 0) (ms' := 0) (M' := M_X11_give) (d' := 0) (as := [vI (σ (5 + 20 + l1) 4)]) (st := []) 11 1 e_X11_tenant_3.2.2.2.2.2.1 (kCVof m_X11_give l_X11_176) rfl (by decide) kx_0 (by decide) (by decide) rfl rfl (by show (0 : Nat) ≤ 8; decide) ?_
      refine S_X11_give ?_
      refine R_eqs (st2 := [vI (σ (5 + 20 + l1) 4)]) (σ2 := (kup σ 0 0 0)) rfl rfl ?_
      exact R_ireturn e_X11_tenant_3.2.2.2.2.2.2.1 rfl h
    by_cases t4 : l2 = 4
    · refine R_tableIn 100 e_X11_tenant_1.2.2.2.2.2.2.1 q5 (by omega) (by omega) (off := 72) (by rw [t4]; rfl) (by decide) ?_
      replace h := h.2.2.2.2.1 t4
      refine R_aload_n e_X11_tenant_3.2.2.2.2.2.2.2.1 1 rfl ?_
      refine R_aload_n e_X11_tenant_3.2.2.2.2.2.2.2.2.1 0 rfl ?_
      refine R_getI 9 5 5 e_X11_tenant_3.2.2.2.2.2.2.2.2.2 f_X11_305 (kC_ten isC_5 q4) (fun _ _ => rfl) rfl ?_
      refine R_callV (mc := 0) (ms := 0) (mc' := 0) (ms' := 0) (M' := M_X11_give) (d' := 0) (as := [vI (σ (5 + 20 + l1) 5)]) (st := []) 11 1 e_X11_tenant_4.1 (kCVof m_X11_give l_X11_176) rfl (by decide) kx_0 (by decide) (by decide) rfl rfl (by show (0 : Nat) ≤ 8; decide) ?_
      refine S_X11_give ?_
      refine R_eqs (st2 := [vI (σ (5 + 20 + l1) 5)]) (σ2 := (kup σ 0 0 0)) rfl rfl ?_
      exact R_ireturn e_X11_tenant_4.2.1 rfl h
    refine R_tableOut 109 e_X11_tenant_1.2.2.2.2.2.2.1 q5 (by omega) (by decide) ?_
    replace h := h.2.2.2.2.2 (by omega)
    refine R_aload_n e_X11_tenant_4.2.2.1 1 rfl ?_
    refine R_iconst e_X11_tenant_4.2.2.2.1 ?_
    refine R_callV (mc := 0) (ms := 0) (mc' := 0) (ms' := 0) (M' := M_X11_deny) (d' := 0) (as := [vI 1]) (st := []) 11 1 e_X11_tenant_4.2.2.2.2.1 (kCVof m_X11_deny l_X11_132) rfl (by decide) kx_0 (by decide) (by decide) rfl rfl (by show (0 : Nat) ≤ 8; decide) ?_
    refine S_X11_deny ?_
    refine R_eqs (st2 := [vI (-1)]) (σ2 := (kup σ 0 0 1)) rfl rfl ?_
    exact R_ireturn e_X11_tenant_4.2.2.2.2.2 rfl h
  · replace h := h.2 (kb_f q)
    refine R_aload_n e_X11_tenant_0.2.2.2.2.2.1 0 rfl ?_
    refine R_iconst e_X11_tenant_0.2.2.2.2.2.2.1 ?_
    refine R_callV (mc := 0) (ms := 0) (mc' := 0) (ms' := 0) (M' := M_X11_deny) (d' := 0) (as := [vI 1]) (st := []) 11 1 e_X11_tenant_0.2.2.2.2.2.2.2.1 (kCVof m_X11_deny l_X11_132) rfl (by decide) kx_0 (by decide) (by decide) rfl rfl (by show (0 : Nat) ≤ 8; decide) ?_
    refine S_X11_deny ?_
    refine R_eqs (st2 := [vI (-1)]) (σ2 := (kup σ 0 0 1)) rfl rfl ?_
    exact R_ireturn e_X11_tenant_0.2.2.2.2.2.2.2.2.1 rfl h
