/-! KiteLand.give(I)I -/
theorem e_X11_give_0 : decode cX11_give 0 = .ok (.aload_n 0, 1) ∧ decode cX11_give 1 = .ok (.iconst 0, 1) ∧ decode cX11_give 2 = .ok (.putfield 9, 3) ∧ decode cX11_give 5 = .ok (.iload_n 1, 1) ∧ decode cX11_give 6 = .ok (.ireturn, 1) := by decide +kernel
theorem S_X11_give {G : Kg} {σ : Kmem} {Q : Int → Kmem → Prop} {l1 : Int}  (h : Q l1 (kup σ 0 0 0)) : Run G WX M_X11_give 0 0 0 [vA G 0, vI l1] σ Q := by
  refine Run.of (by decide +kernel) (by show (2 : Nat) ≤ 2; decide) ?_
  show Ex G WX M_X11_give 0 0 0 0 [(0, vA G 0), (1, vI l1)] [] σ Q
  refine R_aload_n e_X11_give_0.1 0 rfl ?_
  refine R_iconst e_X11_give_0.2.1 ?_
  refine R_putI 11 0 0 WX_ok e_X11_give_0.2.2.1 f_X11_9 kx_0 rfl rfl rfl ?_
  refine R_iload_n e_X11_give_0.2.2.2.1 1 rfl ?_
  exact R_ireturn e_X11_give_0.2.2.2.2 rfl h
/-! KiteLand.deny(I)I -/
theorem e_X11_deny_0 : decode cX11_deny 0 = .ok (.aload_n 0, 1) ∧ decode cX11_deny 1 = .ok (.iload_n 1, 1) ∧ decode cX11_deny 2 = .ok (.putfield 9, 3) ∧ decode cX11_deny 5 = .ok (.iconst (-1), 1) ∧ decode cX11_deny 6 = .ok (.ireturn, 1) := by decide +kernel
theorem S_X11_deny {G : Kg} {σ : Kmem} {Q : Int → Kmem → Prop} {l1 : Int}  (h : Q (-1) (kup σ 0 0 l1)) : Run G WX M_X11_deny 0 0 0 [vA G 0, vI l1] σ Q := by
  refine Run.of (by decide +kernel) (by show (2 : Nat) ≤ 2; decide) ?_
  show Ex G WX M_X11_deny 0 0 0 0 [(0, vA G 0), (1, vI l1)] [] σ Q
  refine R_aload_n e_X11_deny_0.1 0 rfl ?_
  refine R_iload_n e_X11_deny_0.2.1 1 rfl ?_
  refine R_putI 11 0 0 WX_ok e_X11_deny_0.2.2.1 f_X11_9 kx_0 rfl rfl rfl ?_
  refine R_iconst e_X11_deny_0.2.2.2.1 ?_
  exact R_ireturn e_X11_deny_0.2.2.2.2 rfl h
/-! KiteLand.grant()Z -/
theorem e_X11_grant_0 : decode cX11_grant 0 = .ok (.aload_n 0, 1) ∧ decode cX11_grant 1 = .ok (.iconst 0, 1) ∧ decode cX11_grant 2 = .ok (.putfield 9, 3) ∧ decode cX11_grant 5 = .ok (.iconst 1, 1) ∧ decode cX11_grant 6 = .ok (.ireturn, 1) := by decide +kernel
theorem S_X11_grant {G : Kg} {σ : Kmem} {Q : Int → Kmem → Prop}  (h : Q 1 (kup σ 0 0 0)) : Run G WX M_X11_grant 0 0 0 [vA G 0] σ Q := by
  refine Run.of (by decide +kernel) (by show (1 : Nat) ≤ 1; decide) ?_
  show Ex G WX M_X11_grant 0 0 0 0 [(0, vA G 0)] [] σ Q
  refine R_aload_n e_X11_grant_0.1 0 rfl ?_
  refine R_iconst e_X11_grant_0.2.1 ?_
  refine R_putI 11 0 0 WX_ok e_X11_grant_0.2.2.1 f_X11_9 kx_0 rfl rfl rfl ?_
  refine R_iconst e_X11_grant_0.2.2.2.1 ?_
  exact R_zreturn e_X11_grant_0.2.2.2.2 rfl (Or.inr rfl) h
/-! KiteLand.refuse(I)Z -/
theorem e_X11_refuse_0 : decode cX11_refuse 0 = .ok (.aload_n 0, 1) ∧ decode cX11_refuse 1 = .ok (.iload_n 1, 1) ∧ decode cX11_refuse 2 = .ok (.putfield 9, 3) ∧ decode cX11_refuse 5 = .ok (.iconst 0, 1) ∧ decode cX11_refuse 6 = .ok (.ireturn, 1) := by decide +kernel
theorem S_X11_refuse {G : Kg} {σ : Kmem} {Q : Int → Kmem → Prop} {l1 : Int}  (h : Q 0 (kup σ 0 0 l1)) : Run G WX M_X11_refuse 0 0 0 [vA G 0, vI l1] σ Q := by
  refine Run.of (by decide +kernel) (by show (2 : Nat) ≤ 2; decide) ?_
  show Ex G WX M_X11_refuse 0 0 0 0 [(0, vA G 0), (1, vI l1)] [] σ Q
  refine R_aload_n e_X11_refuse_0.1 0 rfl ?_
  refine R_iload_n e_X11_refuse_0.2.1 1 rfl ?_
  refine R_putI 11 0 0 WX_ok e_X11_refuse_0.2.2.1 f_X11_9 kx_0 rfl rfl rfl ?_
  refine R_iconst e_X11_refuse_0.2.2.2.1 ?_
  exact R_zreturn e_X11_refuse_0.2.2.2.2 rfl (Or.inl rfl) h
/-! KiteLand.fieldNumber(II)I -/
theorem e_X11_fieldNumber_0 : decode cX11_fieldNumber 0 = .ok (.iload_n 2, 1) ∧ decode cX11_fieldNumber 1 = .ok (.bipush 10, 2) ∧ decode cX11_fieldNumber 3 = .ok (.imul, 1) ∧ decode cX11_fieldNumber 4 = .ok (.iload_n 1, 1) ∧ decode cX11_fieldNumber 5 = .ok (.iadd, 1) ∧ decode cX11_fieldNumber 6 = .ok (.ireturn, 1) := by decide +kernel
theorem S_X11_fieldNumber {G : Kg} {σ : Kmem} {Q : Int → Kmem → Prop} {l1 l2 : Int}  (h : Q ((l2 * 10) + l1) σ) : Run G WX M_X11_fieldNumber 0 0 0 [vA G 0, vI l1, vI l2] σ Q := by
  refine Run.of (by decide +kernel) (by show (3 : Nat) ≤ 3; decide) ?_
  show Ex G WX M_X11_fieldNumber 0 0 0 0 [(0, vA G 0), (1, vI l1), (2, vI l2)] [] σ Q
  refine R_iload_n e_X11_fieldNumber_0.1 2 rfl ?_
  refine R_bipush e_X11_fieldNumber_0.2.1 (by decide) ?_
  refine R_imul e_X11_fieldNumber_0.2.2.1 ?_
  refine R_iload_n e_X11_fieldNumber_0.2.2.2.1 1 rfl ?_
  refine R_iadd e_X11_fieldNumber_0.2.2.2.2.1 ?_
  exact R_ireturn e_X11_fieldNumber_0.2.2.2.2.2 rfl h
/-! KiteLand.placeStatus(II)I -/
theorem e_X11_placeStatus_0 : decode cX11_placeStatus 0 = .ok (.aload_n 0, 1) ∧ decode cX11_placeStatus 1 = .ok (.iload_n 1, 1) ∧ decode cX11_placeStatus 2 = .ok (.invokevirtual 109, 3) ∧ decode cX11_placeStatus 5 = .ok (.ifCond .ne 5, 3) ∧ decode cX11_placeStatus 8 = .ok (.iconst 1, 1) ∧ decode cX11_placeStatus 9 = .ok (.ireturn, 1) ∧ decode cX11_placeStatus 10 = .ok (.aload_n 0, 1) ∧ decode cX11_placeStatus 11 = .ok (.getfield 22, 3) ∧ decode cX11_placeStatus 14 = .ok (.iload_n 1, 1) ∧ decode cX11_placeStatus 15 = .ok (.aaload, 1) := by decide +kernel
theorem e_X11_placeStatus_1 : decode cX11_placeStatus 16 = .ok (.getfield 140, 3) ∧ decode cX11_placeStatus 19 = .ok (.ifCond .ne 5, 3) ∧ decode cX11_placeStatus 22 = .ok (.iconst 2, 1) ∧ decode cX11_placeStatus 23 = .ok (.ireturn, 1) ∧ decode cX11_placeStatus 24 = .ok (.iload_n 2, 1) ∧ decode cX11_placeStatus 25 = .ok (.ifCond .lt 16, 3) ∧ decode cX11_placeStatus 28 = .ok (.iload_n 2, 1) ∧ decode cX11_placeStatus 29 = .ok (.aload_n 0, 1) ∧ decode cX11_placeStatus 30 = .ok (.getfield 22, 3) ∧ decode cX11_placeStatus 33 = .ok (.iload_n 1, 1) := by decide +kernel
theorem e_X11_placeStatus_2 : decode cX11_placeStatus 34 = .ok (.aaload, 1) ∧ decode cX11_placeStatus 35 = .ok (.getfield 147, 3) ∧ decode cX11_placeStatus 38 = .ok (.if_icmp .lt 7, 3) ∧ decode cX11_placeStatus 41 = .ok (.iconst 3, 1) ∧ decode cX11_placeStatus 42 = .ok (.goto 4, 3) ∧ decode cX11_placeStatus 45 = .ok (.iconst 0, 1) ∧ decode cX11_placeStatus 46 = .ok (.ireturn, 1) := by decide +kernel
theorem S_X11_placeStatus {G : Kg} {σ : Kmem} {Q : Int → Kmem → Prop} {l1 l2 : Int}  (h : (rI (l1)) ∧ ((((0 : Int) ≤ l1 ∧ (l1 : Int) < 4) → (0 ≤ l1 ∧ l1 < 4) ∧ (rI (σ (adT l1) 0)) ∧ ((σ (adT l1) 0 ≠ 0 → (rI l2) ∧ ((l2 < 0 → Q 3 σ) ∧ (0 ≤ l2 → (0 ≤ l1 ∧ l1 < 4) ∧ (rI (σ (adT l1) 2)) ∧ ((l2 < σ (adT l1) 2 → Q 0 σ) ∧ (σ (adT l1) 2 ≤ l2 → Q 3 σ))))) ∧ (σ (adT l1) 0 = 0 → Q 2 σ))) ∧ (¬ ((0 : Int) ≤ l1 ∧ (l1 : Int) < 4) → Q 1 σ))) : Run G WX M_X11_placeStatus 1 0 0 [vA G 0, vI l1, vI l2] σ Q := by
  refine Run.of (by decide +kernel) (by show (3 : Nat) ≤ 3; decide) ?_
  show Ex G WX M_X11_placeStatus 1 0 0 0 [(0, vA G 0), (1, vI l1), (2, vI l2)] [] σ Q
  refine R_aload_n e_X11_placeStatus_0.1 0 rfl ?_
  refine R_iload_n e_X11_placeStatus_0.2.1 1 rfl ?_
  obtain ⟨q3, h⟩ := h
  refine R_callV (mc := 0) (ms := 0) (mc' := 0) (ms' := 0) (M' := M_X11_isTray) (d' := 0) (as := [vI l1]) (st := []) 11 1 e_X11_placeStatus_0.2.2.1 (kCVof m_X11_isTray l_X11_109) rfl (by decide) kx_0 (by decide) (by decide) rfl rfl (by show (0 : Nat) ≤ 8; decide) ?_
  refine Run.mono (P_X11_isTray q3) (fun rr ss e => ?_)
  obtain ⟨e1, e2⟩ := e
  refine R_eqs (st2 := [vI (kb ((0 : Int) ≤ l1 ∧ (l1 : Int) < 4))]) (σ2 := σ) (by rw [e1]; rfl) e2 ?_
  refine R_if_ne 10 e_X11_placeStatus_0.2.2.2.1 (by decide) (kb_r _) (fun q => ?_) (fun q => ?_)
  · replace h := h.1 (kb_t q)
    refine R_aload_n e_X11_placeStatus_0.2.2.2.2.2.2.1 0 rfl ?_
    refine R_getA 11 3 1 e_X11_placeStatus_0.2.2.2.2.2.2.2.1 f_X11_22 kx_0 (fun _ _ => rfl) rx_0_3 (by decide) ?_
    refine R_iload_n e_X11_placeStatus_0.2.2.2.2.2.2.2.2.1 1 rfl ?_
    obtain ⟨q4, h⟩ := h
    refine R_aald 24 4 (adT l1) e_X11_placeStatus_0.2.2.2.2.2.2.2.2.2 (by decide) kxa_1 q4 (adT_at q4) (adT_n q4) ?_
    refine R_getI 10 0 0 e_X11_placeStatus_1.1 f_X11_140 (kT_self (adT_is q4)) (fun _ _ => rfl) rfl ?_
    obtain ⟨q5, h⟩ := h
    refine R_if_ne 24 e_X11_placeStatus_1.2.1 (by decide) q5  (fun q => ?_) (fun q => ?_)
    · replace h := h.1 q
      refine R_iload_n e_X11_placeStatus_1.2.2.2.2.1 2 rfl ?_
      obtain ⟨q6, h⟩ := h
      refine R_if_lt 41 e_X11_placeStatus_1.2.2.2.2.2.1 (by decide) q6  (fun q => ?_) (fun q => ?_)
      · replace h := h.1 q
        refine R_iconst e_X11_placeStatus_2.2.2.2.1 ?_
        refine R_goto 46 e_X11_placeStatus_2.2.2.2.2.1 (by decide) ?_
        exact R_ireturn e_X11_placeStatus_2.2.2.2.2.2.2 rfl h
      · replace h := h.2 q
        refine R_iload_n e_X11_placeStatus_1.2.2.2.2.2.2.1 2 rfl ?_
        refine R_aload_n e_X11_placeStatus_1.2.2.2.2.2.2.2.1 0 rfl ?_
        refine R_getA 11 3 1 e_X11_placeStatus_1.2.2.2.2.2.2.2.2.1 f_X11_22 kx_0 (fun _ _ => rfl) rx_0_3 (by decide) ?_
        refine R_iload_n e_X11_placeStatus_1.2.2.2.2.2.2.2.2.2 1 rfl ?_
        obtain ⟨q7, h⟩ := h
        refine R_aald 24 4 (adT l1) e_X11_placeStatus_2.1 (by decide) kxa_1 q7 (adT_at q7) (adT_n q7) ?_
        refine R_getI 10 2 2 e_X11_placeStatus_2.2.1 f_X11_147 (kT_self (adT_is q7)) (fun _ _ => rfl) rfl ?_
        obtain ⟨q8, h⟩ := h
        refine R_icmp_lt 45 e_X11_placeStatus_2.2.2.1 (by decide) q6 q8 (fun q => ?_) (fun q => ?_)
        · replace h := h.1 q
          refine R_iconst e_X11_placeStatus_2.2.2.2.2.2.1 ?_
          exact R_ireturn e_X11_placeStatus_2.2.2.2.2.2.2 rfl h
        · replace h := h.2 q
          refine R_iconst e_X11_placeStatus_2.2.2.2.1 ?_
          refine R_goto 46 e_X11_placeStatus_2.2.2.2.2.1 (by decide) ?_
          exact R_ireturn e_X11_placeStatus_2.2.2.2.2.2.2 rfl h
    · replace h := h.2 q
      refine R_iconst e_X11_placeStatus_1.2.2.1 ?_
      exact R_ireturn e_X11_placeStatus_1.2.2.2.1 rfl h
  · replace h := h.2 (kb_f q)
    refine R_iconst e_X11_placeStatus_0.2.2.2.2.1 ?_
    exact R_ireturn e_X11_placeStatus_0.2.2.2.2.2.1 rfl h
/-! KiteLand.stripTrayStatus(I)I -/
theorem e_X11_stripTrayStatus_0 : decode cX11_stripTrayStatus 0 = .ok (.aload_n 0, 1) ∧ decode cX11_stripTrayStatus 1 = .ok (.getfield 22, 3) ∧ decode cX11_stripTrayStatus 4 = .ok (.iload_n 1, 1) ∧ decode cX11_stripTrayStatus 5 = .ok (.aaload, 1) ∧ decode cX11_stripTrayStatus 6 = .ok (.getfield 140, 3) ∧ decode cX11_stripTrayStatus 9 = .ok (.ifCond .ne 5, 3) ∧ decode cX11_stripTrayStatus 12 = .ok (.iconst 2, 1) ∧ decode cX11_stripTrayStatus 13 = .ok (.ireturn, 1) ∧ decode cX11_stripTrayStatus 14 = .ok (.aload_n 0, 1) ∧ decode cX11_stripTrayStatus 15 = .ok (.getfield 22, 3) := by decide +kernel
theorem e_X11_stripTrayStatus_1 : decode cX11_stripTrayStatus 18 = .ok (.iload_n 1, 1) ∧ decode cX11_stripTrayStatus 19 = .ok (.aaload, 1) ∧ decode cX11_stripTrayStatus 20 = .ok (.getfield 147, 3) ∧ decode cX11_stripTrayStatus 23 = .ok (.aload_n 0, 1) ∧ decode cX11_stripTrayStatus 24 = .ok (.getfield 43, 3) ∧ decode cX11_stripTrayStatus 27 = .ok (.getfield 194, 3) ∧ decode cX11_stripTrayStatus 30 = .ok (.if_icmp .ge 7, 3) ∧ decode cX11_stripTrayStatus 33 = .ok (.iconst 3, 1) ∧ decode cX11_stripTrayStatus 34 = .ok (.goto 4, 3) ∧ decode cX11_stripTrayStatus 37 = .ok (.iconst 0, 1) := by decide +kernel
theorem e_X11_stripTrayStatus_2 : decode cX11_stripTrayStatus 38 = .ok (.ireturn, 1) := by decide +kernel
theorem S_X11_stripTrayStatus {G : Kg} {σ : Kmem} {Q : Int → Kmem → Prop} {l1 : Int}  (h : (0 ≤ l1 ∧ l1 < 4) ∧ (rI (σ (adT l1) 0)) ∧ ((σ (adT l1) 0 ≠ 0 → (0 ≤ l1 ∧ l1 < 4) ∧ (rI (σ (adT l1) 2)) ∧ (rI (σ 5 0)) ∧ ((σ 5 0 ≤ σ (adT l1) 2 → Q 0 σ) ∧ (σ (adT l1) 2 < σ 5 0 → Q 3 σ))) ∧ (σ (adT l1) 0 = 0 → Q 2 σ))) : Run G WX M_X11_stripTrayStatus 0 0 0 [vA G 0, vI l1] σ Q := by
  refine Run.of (by decide +kernel) (by show (2 : Nat) ≤ 2; decide) ?_
  show Ex G WX M_X11_stripTrayStatus 0 0 0 0 [(0, vA G 0), (1, vI l1)] [] σ Q
  refine R_aload_n e_X11_stripTrayStatus_0.1 0 rfl ?_
  refine R_getA 11 3 1 e_X11_stripTrayStatus_0.2.1 f_X11_22 kx_0 (fun _ _ => rfl) rx_0_3 (by decide) ?_
  refine R_iload_n e_X11_stripTrayStatus_0.2.2.1 1 rfl ?_
  obtain ⟨q1, h⟩ := h
  refine R_aald 24 4 (adT l1) e_X11_stripTrayStatus_0.2.2.2.1 (by decide) kxa_1 q1 (adT_at q1) (adT_n q1) ?_
  refine R_getI 10 0 0 e_X11_stripTrayStatus_0.2.2.2.2.1 f_X11_140 (kT_self (adT_is q1)) (fun _ _ => rfl) rfl ?_
  obtain ⟨q2, h⟩ := h
  refine R_if_ne 14 e_X11_stripTrayStatus_0.2.2.2.2.2.1 (by decide) q2  (fun q => ?_) (fun q => ?_)
  · replace h := h.1 q
    refine R_aload_n e_X11_stripTrayStatus_0.2.2.2.2.2.2.2.2.1 0 rfl ?_
    refine R_getA 11 3 1 e_X11_stripTrayStatus_0.2.2.2.2.2.2.2.2.2 f_X11_22 kx_0 (fun _ _ => rfl) rx_0_3 (by decide) ?_
    refine R_iload_n e_X11_stripTrayStatus_1.1 1 rfl ?_
    obtain ⟨q3, h⟩ := h
    refine R_aald 24 4 (adT l1) e_X11_stripTrayStatus_1.2.1 (by decide) kxa_1 q3 (adT_at q3) (adT_n q3) ?_
    refine R_getI 10 2 2 e_X11_stripTrayStatus_1.2.2.1 f_X11_147 (kT_self (adT_is q3)) (fun _ _ => rfl) rfl ?_
    refine R_aload_n e_X11_stripTrayStatus_1.2.2.2.1 0 rfl ?_
    refine R_getA 11 7 5 e_X11_stripTrayStatus_1.2.2.2.2.1 f_X11_43 kx_0 (fun _ _ => rfl) rx_0_7 (by decide) ?_
    refine R_getI 0 0 0 e_X11_stripTrayStatus_1.2.2.2.2.2.1 f_X11_194 (kC_self isC_5) (fun _ _ => rfl) rfl ?_
    obtain ⟨q4, h⟩ := h
    obtain ⟨q5, h⟩ := h
    refine R_icmp_ge 37 e_X11_stripTrayStatus_1.2.2.2.2.2.2.1 (by decide) q4 q5 (fun q => ?_) (fun q => ?_)
    · replace h := h.1 q
      refine R_iconst e_X11_stripTrayStatus_1.2.2.2.2.2.2.2.2.2 ?_
      exact R_ireturn e_X11_stripTrayStatus_2 rfl h
    · replace h := h.2 q
      refine R_iconst e_X11_stripTrayStatus_1.2.2.2.2.2.2.2.1 ?_
      refine R_goto 38 e_X11_stripTrayStatus_1.2.2.2.2.2.2.2.2.1 (by decide) ?_
      exact R_ireturn e_X11_stripTrayStatus_2 rfl h
  · replace h := h.2 q
    refine R_iconst e_X11_stripTrayStatus_0.2.2.2.2.2.2.1 ?_
    exact R_ireturn e_X11_stripTrayStatus_0.2.2.2.2.2.2.2.1 rfl h
/-! KiteLand.coverStatus(III)I -/
theorem e_X11_coverStatus_0 : decode cX11_coverStatus 0 = .ok (.aload_n 0, 1) ∧ decode cX11_coverStatus 1 = .ok (.iload_n 1, 1) ∧ decode cX11_coverStatus 2 = .ok (.invokevirtual 109, 3) ∧ decode cX11_coverStatus 5 = .ok (.ifCond .eq 22, 3) ∧ decode cX11_coverStatus 8 = .ok (.iload_n 2, 1) ∧ decode cX11_coverStatus 9 = .ok (.iconst 1, 1) ∧ decode cX11_coverStatus 10 = .ok (.if_icmp .lt 17, 3) ∧ decode cX11_coverStatus 13 = .ok (.iload_n 2, 1) ∧ decode cX11_coverStatus 14 = .ok (.bipush 20, 2) ∧ decode cX11_coverStatus 16 = .ok (.if_icmp .gt 11, 3) := by decide +kernel
theorem e_X11_coverStatus_1 : decode cX11_coverStatus 19 = .ok (.aload_n 0, 1) ∧ decode cX11_coverStatus 20 = .ok (.iload_n 3, 1) ∧ decode cX11_coverStatus 21 = .ok (.invokevirtual 228, 3) ∧ decode cX11_coverStatus 24 = .ok (.ifCond .ne 5, 3) ∧ decode cX11_coverStatus 27 = .ok (.iconst 1, 1) ∧ decode cX11_coverStatus 28 = .ok (.ireturn, 1) ∧ decode cX11_coverStatus 29 = .ok (.aload_n 0, 1) ∧ decode cX11_coverStatus 30 = .ok (.getfield 22, 3) ∧ decode cX11_coverStatus 33 = .ok (.iload_n 1, 1) ∧ decode cX11_coverStatus 34 = .ok (.aaload, 1) := by decide +kernel
theorem e_X11_coverStatus_2 : decode cX11_coverStatus 35 = .ok (.getfield 140, 3) ∧ decode cX11_coverStatus 38 = .ok (.ifCond .ne 5, 3) ∧ decode cX11_coverStatus 41 = .ok (.iconst 2, 1) ∧ decode cX11_coverStatus 42 = .ok (.ireturn, 1) ∧ decode cX11_coverStatus 43 = .ok (.aload_n 0, 1) ∧ decode cX11_coverStatus 44 = .ok (.getfield 22, 3) ∧ decode cX11_coverStatus 47 = .ok (.iload_n 1, 1) ∧ decode cX11_coverStatus 48 = .ok (.aaload, 1) ∧ decode cX11_coverStatus 49 = .ok (.getfield 147, 3) ∧ decode cX11_coverStatus 52 = .ok (.iload_n 2, 1) := by decide +kernel
theorem e_X11_coverStatus_3 : decode cX11_coverStatus 53 = .ok (.if_icmp .ge 5, 3) ∧ decode cX11_coverStatus 56 = .ok (.iconst 3, 1) ∧ decode cX11_coverStatus 57 = .ok (.ireturn, 1) ∧ decode cX11_coverStatus 58 = .ok (.iconst 0, 1) ∧ decode cX11_coverStatus 59 = .ok (.istore 4, 2) ∧ decode cX11_coverStatus 61 = .ok (.iload 4, 2) ∧ decode cX11_coverStatus 63 = .ok (.iload_n 2, 1) ∧ decode cX11_coverStatus 64 = .ok (.if_icmp .ge 33, 3) ∧ decode cX11_coverStatus 67 = .ok (.aload_n 0, 1) ∧ decode cX11_coverStatus 68 = .ok (.getfield 43, 3) := by decide +kernel
theorem e_X11_coverStatus_4 : decode cX11_coverStatus 71 = .ok (.aload_n 0, 1) ∧ decode cX11_coverStatus 72 = .ok (.getfield 22, 3) ∧ decode cX11_coverStatus 75 = .ok (.iload_n 1, 1) ∧ decode cX11_coverStatus 76 = .ok (.aaload, 1) ∧ decode cX11_coverStatus 77 = .ok (.getfield 136, 3) ∧ decode cX11_coverStatus 80 = .ok (.iload 4, 2) ∧ decode cX11_coverStatus 82 = .ok (.laload, 1) ∧ decode cX11_coverStatus 83 = .ok (.invokevirtual 480, 3) ∧ decode cX11_coverStatus 86 = .ok (.ifCond .ne 5, 3) ∧ decode cX11_coverStatus 89 = .ok (.iconst 5, 1) := by decide +kernel
theorem e_X11_coverStatus_5 : decode cX11_coverStatus 90 = .ok (.ireturn, 1) ∧ decode cX11_coverStatus 91 = .ok (.iinc 4 1, 3) ∧ decode cX11_coverStatus 94 = .ok (.goto (-33), 3) ∧ decode cX11_coverStatus 97 = .ok (.aload_n 0, 1) ∧ decode cX11_coverStatus 98 = .ok (.getfield 64, 3) ∧ decode cX11_coverStatus 101 = .ok (.aload_n 0, 1) ∧ decode cX11_coverStatus 102 = .ok (.getfield 43, 3) ∧ decode cX11_coverStatus 105 = .ok (.iload_n 3, 1) ∧ decode cX11_coverStatus 106 = .ok (.invokevirtual 308, 3) ∧ decode cX11_coverStatus 109 = .ok (.aload_n 0, 1) := by decide +kernel
theorem e_X11_coverStatus_6 : decode cX11_coverStatus 110 = .ok (.getfield 93, 3) ∧ decode cX11_coverStatus 113 = .ok (.aload_n 0, 1) ∧ decode cX11_coverStatus 114 = .ok (.getfield 22, 3) ∧ decode cX11_coverStatus 117 = .ok (.iload_n 1, 1) ∧ decode cX11_coverStatus 118 = .ok (.aaload, 1) ∧ decode cX11_coverStatus 119 = .ok (.getfield 136, 3) ∧ decode cX11_coverStatus 122 = .ok (.iload_n 2, 1) ∧ decode cX11_coverStatus 123 = .ok (.invokevirtual 484, 3) ∧ decode cX11_coverStatus 126 = .ok (.ifCond .eq 7, 3) ∧ decode cX11_coverStatus 129 = .ok (.iconst 0, 1) := by decide +kernel
theorem e_X11_coverStatus_7 : decode cX11_coverStatus 130 = .ok (.goto 5, 3) ∧ decode cX11_coverStatus 133 = .ok (.bipush 6, 2) ∧ decode cX11_coverStatus 135 = .ok (.ireturn, 1) := by decide +kernel
abbrev E_X11_coverStatus_61 (G : Kg) (l1 l2 l3 l4 : Int) (σ : Kmem) (Q : Int → Kmem → Prop) : Prop := Ex G WX M_X11_coverStatus 4 0 0 61 [(0, vA G 0), (1, vI l1), (2, vI l2), (3, vI l3), (4, vI l4)] [] σ Q
theorem S_X11_coverStatus {G : Kg} {σ : Kmem} {Q : Int → Kmem → Prop} {l1 l2 l3 : Int}  (h : (rI (l1)) ∧ ((¬ ((0 : Int) ≤ l1 ∧ (l1 : Int) < 4) → Q 1 σ) ∧ (((0 : Int) ≤ l1 ∧ (l1 : Int) < 4) → (rI l2) ∧ ((l2 < 1 → Q 1 σ) ∧ (1 ≤ l2 → ((20 < l2 → Q 1 σ) ∧ (l2 ≤ 20 → (rI (l3)) ∧ (((sHr (l3)) → (0 ≤ l1 ∧ l1 < 4) ∧ (rI (σ (adT l1) 0)) ∧ ((σ (adT l1) 0 ≠ 0 → (0 ≤ l1 ∧ l1 < 4) ∧ (rI (σ (adT l1) 2)) ∧ ((l2 ≤ σ (adT l1) 2 → E_X11_coverStatus_61 G l1 l2 l3 0 σ Q) ∧ (σ (adT l1) 2 < l2 → Q 3 σ))) ∧ (σ (adT l1) 0 = 0 → Q 2 σ))) ∧ (¬ (sHr (l3)) → Q 1 σ))))))))) : Run G WX M_X11_coverStatus 4 0 0 [vA G 0, vI l1, vI l2, vI l3] σ Q := by
  refine Run.of (by decide +kernel) (by show (4 : Nat) ≤ 5; decide) ?_
  show Ex G WX M_X11_coverStatus 4 0 0 0 [(0, vA G 0), (1, vI l1), (2, vI l2), (3, vI l3)] [] σ Q
  refine R_aload_n e_X11_coverStatus_0.1 0 rfl ?_
  refine R_iload_n e_X11_coverStatus_0.2.1 1 rfl ?_
  obtain ⟨q3, h⟩ := h
  refine R_callV (mc := 0) (ms := 0) (mc' := 0) (ms' := 0) (M' := M_X11_isTray) (d' := 0) (as := [vI l1]) (st := []) 11 1 e_X11_coverStatus_0.2.2.1 (kCVof m_X11_isTray l_X11_109) rfl (by decide) kx_0 (by decide) (by decide) rfl rfl (by show (0 : Nat) ≤ 8; decide) ?_
  refine Run.mono (P_X11_isTray q3) (fun rr ss e => ?_)
  obtain ⟨e1, e2⟩ := e
  refine R_eqs (st2 := [vI (kb ((0 : Int) ≤ l1 ∧ (l1 : Int) < 4))]) (σ2 := σ) (by rw [e1]; rfl) e2 ?_
  refine R_if_eq 27 e_X11_coverStatus_0.2.2.2.1 (by decide) (kb_r _) (fun q => ?_) (fun q => ?_)
  · replace h := h.1 (kb_f q)
    refine R_iconst e_X11_coverStatus_1.2.2.2.2.1 ?_
    exact R_ireturn e_X11_coverStatus_1.2.2.2.2.2.1 rfl h
  · replace h := h.2 (kb_t q)
    refine R_iload_n e_X11_coverStatus_0.2.2.2.2.1 2 rfl ?_
    refine R_iconst e_X11_coverStatus_0.2.2.2.2.2.1 ?_
    obtain ⟨q4, h⟩ := h
    refine R_icmp_lt 27 e_X11_coverStatus_0.2.2.2.2.2.2.1 (by decide) q4 (by decide) (fun q => ?_) (fun q => ?_)
    · replace h := h.1 q
      refine R_iconst e_X11_coverStatus_1.2.2.2.2.1 ?_
      exact R_ireturn e_X11_coverStatus_1.2.2.2.2.2.1 rfl h
    · replace h := h.2 q
      refine R_iload_n e_X11_coverStatus_0.2.2.2.2.2.2.2.1 2 rfl ?_
      refine R_bipush e_X11_coverStatus_0.2.2.2.2.2.2.2.2.1 (by decide) ?_
      refine R_icmp_gt 27 e_X11_coverStatus_0.2.2.2.2.2.2.2.2.2 (by decide) q4 (by decide) (fun q => ?_) (fun q => ?_)
      · replace h := h.1 q
        refine R_iconst e_X11_coverStatus_1.2.2.2.2.1 ?_
        exact R_ireturn e_X11_coverStatus_1.2.2.2.2.2.1 rfl h
      · replace h := h.2 q
        refine R_aload_n e_X11_coverStatus_1.1 0 rfl ?_
        refine R_iload_n e_X11_coverStatus_1.2.1 3 rfl ?_
        obtain ⟨q7, h⟩ := h
        refine R_callV (mc := 0) (ms := 0) (mc' := 0) (ms' := 0) (M' := M_X11_isHourOfDay) (d' := 0) (as := [vI l3]) (st := []) 11 1 e_X11_coverStatus_1.2.2.1 (kCVof m_X11_isHourOfDay l_X11_228) rfl (by decide) kx_0 (by decide) (by decide) rfl rfl (by show (0 : Nat) ≤ 8; decide) ?_
        refine Run.mono (P_X11_isHourOfDay q7) (fun rr ss e => ?_)
        obtain ⟨e1, e2⟩ := e
        refine R_eqs (st2 := [vI (kb (sHr (l3)))]) (σ2 := σ) (by rw [e1]; rfl) e2 ?_
        refine R_if_ne 29 e_X11_coverStatus_1.2.2.2.1 (by decide) (kb_r _) (fun q => ?_) (fun q => ?_)
        · replace h := h.1 (kb_t q)
          refine R_aload_n e_X11_coverStatus_1.2.2.2.2.2.2.1 0 rfl ?_
          refine R_getA 11 3 1 e_X11_coverStatus_1.2.2.2.2.2.2.2.1 f_X11_22 kx_0 (fun _ _ => rfl) rx_0_3 (by decide) ?_
          refine R_iload_n e_X11_coverStatus_1.2.2.2.2.2.2.2.2.1 1 rfl ?_
          obtain ⟨q8, h⟩ := h
          refine R_aald 24 4 (adT l1) e_X11_coverStatus_1.2.2.2.2.2.2.2.2.2 (by decide) kxa_1 q8 (adT_at q8) (adT_n q8) ?_
          refine R_getI 10 0 0 e_X11_coverStatus_2.1 f_X11_140 (kT_self (adT_is q8)) (fun _ _ => rfl) rfl ?_
          obtain ⟨q9, h⟩ := h
          refine R_if_ne 43 e_X11_coverStatus_2.2.1 (by decide) q9  (fun q => ?_) (fun q => ?_)
          · replace h := h.1 q
            refine R_aload_n e_X11_coverStatus_2.2.2.2.2.1 0 rfl ?_
            refine R_getA 11 3 1 e_X11_coverStatus_2.2.2.2.2.2.1 f_X11_22 kx_0 (fun _ _ => rfl) rx_0_3 (by decide) ?_
            refine R_iload_n e_X11_coverStatus_2.2.2.2.2.2.2.1 1 rfl ?_
            obtain ⟨q10, h⟩ := h
            refine R_aald 24 4 (adT l1) e_X11_coverStatus_2.2.2.2.2.2.2.2.1 (by decide) kxa_1 q10 (adT_at q10) (adT_n q10) ?_
            refine R_getI 10 2 2 e_X11_coverStatus_2.2.2.2.2.2.2.2.2.1 f_X11_147 (kT_self (adT_is q10)) (fun _ _ => rfl) rfl ?_
            refine R_iload_n e_X11_coverStatus_2.2.2.2.2.2.2.2.2.2 2 rfl ?_
            obtain ⟨q11, h⟩ := h
            refine R_icmp_ge 58 e_X11_coverStatus_3.1 (by decide) q11 q4 (fun q => ?_) (fun q => ?_)
            · replace h := h.1 q
              refine R_iconst e_X11_coverStatus_3.2.2.2.1 ?_
              refine R_istore (ls2 := [(4, vI 0), (0, vA G 0), (1, vI l1), (2, vI l2), (3, vI l3)]) e_X11_coverStatus_3.2.2.2.2.1 (by decide) rfl ?_
              refine R_ls (ls2 := [(0, vA G 0), (1, vI l1), (2, vI l2), (3, vI l3), (4, vI 0)]) [1, 2, 3, 4, 0] rfl ?_
              exact h
            · replace h := h.2 q
              refine R_iconst e_X11_coverStatus_3.2.1 ?_
              exact R_ireturn e_X11_coverStatus_3.2.2.1 rfl h
          · replace h := h.2 q
            refine R_iconst e_X11_coverStatus_2.2.2.1 ?_
            exact R_ireturn e_X11_coverStatus_2.2.2.2.1 rfl h
        · replace h := h.2 (kb_f q)
          refine R_iconst e_X11_coverStatus_1.2.2.2.2.1 ?_
          exact R_ireturn e_X11_coverStatus_1.2.2.2.2.2.1 rfl h
theorem S_X11_coverStatus_61 {G : Kg} {σ : Kmem} {Q : Int → Kmem → Prop} {l1 l2 l3 l4 : Int}  (h : (rI l4) ∧ (rI l2) ∧ ((l2 ≤ l4 → Run G WX M_X8_look 3 0 0 [vA G 58, vA G 5, vI l3] σ (fun r14 s15 => (0 ≤ l1 ∧ l1 < 4) ∧ Run G WX M_X5_seekCover 1 0 0 [vA G 82, vA G (adT l1 + 1), vI l2] s15 (fun r17 s18 => (rI r17) ∧ ((r17 = 0 → Q 6 s18) ∧ (r17 ≠ 0 → Q 0 s18))))) ∧ (l4 < l2 → (0 ≤ l1 ∧ l1 < 4) ∧ (0 ≤ l4 ∧ l4 < 60) ∧ Run G WX M_X0_hasFieldNumber 2 0 0 [vA G 5, vL (σ (adT l1 + 1) l4)] σ (fun r22 s23 => (rI r22) ∧ ((r22 ≠ 0 → E_X11_coverStatus_61 G l1 l2 l3 (l4 + 1) s23 Q) ∧ (r22 = 0 → Q 5 s23)))))) : E_X11_coverStatus_61 G l1 l2 l3 l4 σ Q := by
  refine R_iload e_X11_coverStatus_3.2.2.2.2.2.1 4 rfl ?_
  refine R_iload_n e_X11_coverStatus_3.2.2.2.2.2.2.1 2 rfl ?_
  obtain ⟨q12, h⟩ := h
  obtain ⟨q13, h⟩ := h
  refine R_icmp_ge 97 e_X11_coverStatus_3.2.2.2.2.2.2.2.1 (by decide) q12 q13 (fun q => ?_) (fun q => ?_)
  · replace h := h.1 q
    refine R_aload_n e_X11_coverStatus_5.2.2.2.1 0 rfl ?_
    refine R_getA 11 10 58 e_X11_coverStatus_5.2.2.2.2.1 f_X11_64 kx_0 (fun _ _ => rfl) rx_0_10 (by decide) ?_
    refine R_aload_n e_X11_coverStatus_5.2.2.2.2.2.1 0 rfl ?_
    refine R_getA 11 7 5 e_X11_coverStatus_5.2.2.2.2.2.2.1 f_X11_43 kx_0 (fun _ _ => rfl) rx_0_7 (by decide) ?_
    refine R_iload_n e_X11_coverStatus_5.2.2.2.2.2.2.2.1 3 rfl ?_
    refine R_callV (mc := 0) (ms := 0) (mc' := 0) (ms' := 0) (M' := M_X8_look) (d' := 3) (as := [vA G 5, vI l3]) (st := []) 8 2 e_X11_coverStatus_5.2.2.2.2.2.2.2.2.1 (kCVof m_X8_look l_X11_308) rfl (by decide) kx_58 (by decide) (by decide) rfl rfl (by show (0 : Nat) ≤ 8; decide) ?_
    refine Run.mono h (fun r14 s15 h => ?_)
    refine R_eqs (st2 := []) rfl rfl ?_
    refine R_aload_n e_X11_coverStatus_5.2.2.2.2.2.2.2.2.2 0 rfl ?_
    refine R_getA 11 15 82 e_X11_coverStatus_6.1 f_X11_93 kx_0 (fun _ _ => rfl) rx_0_15 (by decide) ?_
    refine R_aload_n e_X11_coverStatus_6.2.1 0 rfl ?_
    refine R_getA 11 3 1 e_X11_coverStatus_6.2.2.1 f_X11_22 kx_0 (fun _ _ => rfl) rx_0_3 (by decide) ?_
    refine R_iload_n e_X11_coverStatus_6.2.2.2.1 1 rfl ?_
    obtain ⟨q16, h⟩ := h
    refine R_aald 24 4 (adT l1) e_X11_coverStatus_6.2.2.2.2.1 (by decide) kxa_1 q16 (adT_at q16) (adT_n q16) ?_
    refine R_getA 10 3 (adT l1 + 1) e_X11_coverStatus_6.2.2.2.2.2.1 f_X11_136 (kT_self (adT_is q16)) (fun _ _ => rfl) (kT_r3 (adT_is q16)) (kT_n1 (adT_is q16)) ?_
    refine R_iload_n e_X11_coverStatus_6.2.2.2.2.2.2.1 2 rfl ?_
    refine R_callV (mc := 0) (ms := 0) (mc' := 0) (ms' := 0) (M' := M_X5_seekCover) (d' := 1) (as := [vA G (adT l1 + 1), vI l2]) (st := []) 5 2 e_X11_coverStatus_6.2.2.2.2.2.2.2.1 (kCVof m_X5_seekCover l_X11_484) rfl (by decide) kx_82 (by decide) (by decide) rfl rfl (by show (0 : Nat) ≤ 8; decide) ?_
    refine Run.mono h (fun r17 s18 h => ?_)
    refine R_eqs (st2 := [vI r17]) rfl rfl ?_
    obtain ⟨q19, h⟩ := h
    refine R_if_eq 133 e_X11_coverStatus_6.2.2.2.2.2.2.2.2.1 (by decide) q19  (fun q => ?_) (fun q => ?_)
    · replace h := h.1 q
      refine R_bipush e_X11_coverStatus_7.2.1 (by decide) ?_
      exact R_ireturn e_X11_coverStatus_7.2.2 rfl h
    · replace h := h.2 q
      refine R_iconst e_X11_coverStatus_6.2.2.2.2.2.2.2.2.2 ?_
      refine R_goto 135 e_X11_coverStatus_7.1 (by decide) ?_
      exact R_ireturn e_X11_coverStatus_7.2.2 rfl h
  · replace h := h.2 q
    refine R_aload_n e_X11_coverStatus_3.2.2.2.2.2.2.2.2.1 0 rfl ?_
    refine R_getA 11 7 5 e_X11_coverStatus_3.2.2.2.2.2.2.2.2.2 f_X11_43 kx_0 (fun _ _ => rfl) rx_0_7 (by decide) ?_
    refine R_aload_n e_X11_coverStatus_4.1 0 rfl ?_
    refine R_getA 11 3 1 e_X11_coverStatus_4.2.1 f_X11_22 kx_0 (fun _ _ => rfl) rx_0_3 (by decide) ?_
    refine R_iload_n e_X11_coverStatus_4.2.2.1 1 rfl ?_
    obtain ⟨q20, h⟩ := h
    refine R_aald 24 4 (adT l1) e_X11_coverStatus_4.2.2.2.1 (by decide) kxa_1 q20 (adT_at q20) (adT_n q20) ?_
    refine R_getA 10 3 (adT l1 + 1) e_X11_coverStatus_4.2.2.2.2.1 f_X11_136 (kT_self (adT_is q20)) (fun _ _ => rfl) (kT_r3 (adT_is q20)) (kT_n1 (adT_is q20)) ?_
    refine R_iload e_X11_coverStatus_4.2.2.2.2.2.1 4 rfl ?_
    obtain ⟨q21, h⟩ := h
    refine R_lald 60 e_X11_coverStatus_4.2.2.2.2.2.2.1 (kT_nums (adT_is q20)) q21 ?_
    refine R_callV (mc := 0) (ms := 0) (mc' := 0) (ms' := 0) (M' := M_X0_hasFieldNumber) (d' := 2) (as := [vL (σ (adT l1 + 1) l4)]) (st := []) 0 1 e_X11_coverStatus_4.2.2.2.2.2.2.2.1 (kCVof m_X0_hasFieldNumber l_X11_480) rfl (by decide) (kC_self isC_5) (by decide) (by decide) rfl rfl (by show (0 : Nat) ≤ 8; decide) ?_
    refine Run.mono h (fun r22 s23 h => ?_)
    refine R_eqs (st2 := [vI r22]) rfl rfl ?_
    obtain ⟨q24, h⟩ := h
    refine R_if_ne 91 e_X11_coverStatus_4.2.2.2.2.2.2.2.2.1 (by decide) q24  (fun q => ?_) (fun q => ?_)
    · replace h := h.1 q
      refine R_iinc (ls2 := [(4, vI (l4 + 1)), (0, vA G 0), (1, vI l1), (2, vI l2), (3, vI l3)]) e_X11_coverStatus_5.2.1 4 rfl (by decide) rfl ?_
      refine R_goto 61 e_X11_coverStatus_5.2.2.1 (by decide) ?_
      refine R_ls (ls2 := [(0, vA G 0), (1, vI l1), (2, vI l2), (3, vI l3), (4, vI (l4 + 1))]) [1, 2, 3, 4, 0] rfl ?_
      exact h
    · replace h := h.2 q
      refine R_iconst e_X11_coverStatus_4.2.2.2.2.2.2.2.2.2 ?_
      exact R_ireturn e_X11_coverStatus_5.1 rfl h
