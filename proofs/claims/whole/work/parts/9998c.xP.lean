/-! KiteLand.rule(I)Z -/
theorem e_X11_rule_0 : decode cX11_rule 0 = .ok (.iload_n 1, 1) ∧ decode cX11_rule 1 = .ok (.ifCond .lt 8, 3) ∧ decode cX11_rule 4 = .ok (.iload_n 1, 1) ∧ decode cX11_rule 5 = .ok (.iconst 2, 1) ∧ decode cX11_rule 6 = .ok (.if_icmp .le 9, 3) ∧ decode cX11_rule 9 = .ok (.aload_n 0, 1) ∧ decode cX11_rule 10 = .ok (.iconst 1, 1) ∧ decode cX11_rule 11 = .ok (.invokevirtual 113, 3) ∧ decode cX11_rule 14 = .ok (.ireturn, 1) ∧ decode cX11_rule 15 = .ok (.aload_n 0, 1) := by decide +kernel
theorem e_X11_rule_1 : decode cX11_rule 16 = .ok (.getfield 43, 3) ∧ decode cX11_rule 19 = .ok (.iload_n 1, 1) ∧ decode cX11_rule 20 = .ok (.putfield 209, 3) ∧ decode cX11_rule 23 = .ok (.aload_n 0, 1) ∧ decode cX11_rule 24 = .ok (.invokevirtual 120, 3) ∧ decode cX11_rule 27 = .ok (.ireturn, 1) := by decide +kernel
theorem S_X11_rule {G : Kg} {σ : Kmem} {Q : Int → Kmem → Prop} {l1 : Int}  (h : (rI l1) ∧ ((l1 < 0 → Q 0 (kup σ 0 0 1)) ∧ (0 ≤ l1 → ((l1 ≤ 2 → Q 1 (kup (kup σ 5 3 l1) 0 0 0)) ∧ (2 < l1 → Q 0 (kup σ 0 0 1)))))) : Run G WX M_X11_rule 1 0 0 [vA G 0, vI l1] σ Q := by
  refine Run.of (by decide +kernel) (by show (2 : Nat) ≤ 2; decide) ?_
  show Ex G WX M_X11_rule 1 0 0 0 [(0, vA G 0), (1, vI l1)] [] σ Q
  refine R_iload_n e_X11_rule_0.1 1 rfl ?_
  obtain ⟨q1, h⟩ := h
  refine R_if_lt 9 e_X11_rule_0.2.1 (by decide) q1  (fun q => ?_) (fun q => ?_)
  · replace h := h.1 q
    refine R_aload_n e_X11_rule_0.2.2.2.2.2.1 0 rfl ?_
    refine R_iconst e_X11_rule_0.2.2.2.2.2.2.1 ?_
    refine R_callV (mc := 0) (ms := 0) (mc' := 0) (ms' := 0) (M' := M_X11_refuse) (d' := 0) (as := [vI 1]) (st := []) 11 1 e_X11_rule_0.2.2.2.2.2.2.2.1 (kCVof m_X11_refuse l_X11_113) rfl (by decide) kx_0 (by decide) (by decide) rfl rfl (by show (0 : Nat) ≤ 8; decide) ?_
    refine S_X11_refuse ?_
    refine R_eqs (st2 := [vI 0]) (σ2 := (kup σ 0 0 1)) rfl rfl ?_
    exact R_zreturn e_X11_rule_0.2.2.2.2.2.2.2.2.1 rfl (Or.inl rfl) h
  · replace h := h.2 q
    refine R_iload_n e_X11_rule_0.2.2.1 1 rfl ?_
    refine R_iconst e_X11_rule_0.2.2.2.1 ?_
    refine R_icmp_le 15 e_X11_rule_0.2.2.2.2.1 (by decide) q1 (by decide) (fun q => ?_) (fun q => ?_)
    · replace h := h.1 q
      refine R_aload_n e_X11_rule_0.2.2.2.2.2.2.2.2.2 0 rfl ?_
      refine R_getA 11 7 5 e_X11_rule_1.1 f_X11_43 kx_0 (fun _ _ => rfl) rx_0_7 (by decide) ?_
      refine R_iload_n e_X11_rule_1.2.1 1 rfl ?_
      refine R_putI 0 3 3 WX_ok e_X11_rule_1.2.2.1 f_X11_209 (kC_self isC_5) rfl rfl rfl ?_
      refine R_aload_n e_X11_rule_1.2.2.2.1 0 rfl ?_
      refine R_callV (mc := 0) (ms := 0) (mc' := 0) (ms' := 0) (M' := M_X11_grant) (d' := 0) (as := []) (st := []) 11 0 e_X11_rule_1.2.2.2.2.1 (kCVof m_X11_grant l_X11_120) rfl (by decide) kx_0 (by decide) (by decide) rfl rfl (by show (0 : Nat) ≤ 8; decide) ?_
      refine S_X11_grant ?_
      refine R_eqs (st2 := [vI 1]) (σ2 := (kup (kup σ 5 3 l1) 0 0 0)) rfl rfl ?_
      exact R_zreturn e_X11_rule_1.2.2.2.2.2 rfl (Or.inr rfl) h
    · replace h := h.2 q
      refine R_aload_n e_X11_rule_0.2.2.2.2.2.1 0 rfl ?_
      refine R_iconst e_X11_rule_0.2.2.2.2.2.2.1 ?_
      refine R_callV (mc := 0) (ms := 0) (mc' := 0) (ms' := 0) (M' := M_X11_refuse) (d' := 0) (as := [vI 1]) (st := []) 11 1 e_X11_rule_0.2.2.2.2.2.2.2.1 (kCVof m_X11_refuse l_X11_113) rfl (by decide) kx_0 (by decide) (by decide) rfl rfl (by show (0 : Nat) ≤ 8; decide) ?_
      refine S_X11_refuse ?_
      refine R_eqs (st2 := [vI 0]) (σ2 := (kup σ 0 0 1)) rfl rfl ?_
      exact R_zreturn e_X11_rule_0.2.2.2.2.2.2.2.2.1 rfl (Or.inl rfl) h
/-! KiteLand.lease(II)Z -/
theorem e_X11_lease_0 : decode cX11_lease 0 = .ok (.aload_n 0, 1) ∧ decode cX11_lease 1 = .ok (.getfield 43, 3) ∧ decode cX11_lease 4 = .ok (.iload_n 1, 1) ∧ decode cX11_lease 5 = .ok (.invokevirtual 288, 3) ∧ decode cX11_lease 8 = .ok (.ifCond .eq 14, 3) ∧ decode cX11_lease 11 = .ok (.aload_n 0, 1) ∧ decode cX11_lease 12 = .ok (.getfield 43, 3) ∧ decode cX11_lease 15 = .ok (.iload_n 2, 1) ∧ decode cX11_lease 16 = .ok (.invokevirtual 238, 3) ∧ decode cX11_lease 19 = .ok (.ifCond .ne 9, 3) := by decide +kernel
theorem e_X11_lease_1 : decode cX11_lease 22 = .ok (.aload_n 0, 1) ∧ decode cX11_lease 23 = .ok (.iconst 1, 1) ∧ decode cX11_lease 24 = .ok (.invokevirtual 113, 3) ∧ decode cX11_lease 27 = .ok (.ireturn, 1) ∧ decode cX11_lease 28 = .ok (.aload_n 0, 1) ∧ decode cX11_lease 29 = .ok (.getfield 43, 3) ∧ decode cX11_lease 32 = .ok (.getfield 291, 3) ∧ decode cX11_lease 35 = .ok (.iload_n 1, 1) ∧ decode cX11_lease 36 = .ok (.aaload, 1) ∧ decode cX11_lease 37 = .ok (.getfield 299, 3) := by decide +kernel
theorem e_X11_lease_2 : decode cX11_lease 40 = .ok (.iload_n 2, 1) ∧ decode cX11_lease 41 = .ok (.if_icmp .ne 10, 3) ∧ decode cX11_lease 44 = .ok (.aload_n 0, 1) ∧ decode cX11_lease 45 = .ok (.bipush 7, 2) ∧ decode cX11_lease 47 = .ok (.invokevirtual 113, 3) ∧ decode cX11_lease 50 = .ok (.ireturn, 1) ∧ decode cX11_lease 51 = .ok (.aload_n 0, 1) ∧ decode cX11_lease 52 = .ok (.getfield 43, 3) ∧ decode cX11_lease 55 = .ok (.getfield 291, 3) ∧ decode cX11_lease 58 = .ok (.iload_n 1, 1) := by decide +kernel
theorem e_X11_lease_3 : decode cX11_lease 59 = .ok (.aaload, 1) ∧ decode cX11_lease 60 = .ok (.iload_n 2, 1) ∧ decode cX11_lease 61 = .ok (.putfield 299, 3) ∧ decode cX11_lease 64 = .ok (.aload_n 0, 1) ∧ decode cX11_lease 65 = .ok (.invokevirtual 120, 3) ∧ decode cX11_lease 68 = .ok (.ireturn, 1) := by decide +kernel
theorem S_X11_lease {G : Kg} {σ : Kmem} {Q : Int → Kmem → Prop} {l1 l2 : Int} {v : Int → Int}  (h : (wf v ∧ kco σ 5 v ∧ rI (l1)) ∧ ((¬ ((0 : Int) ≤ l1 ∧ (l1 : Int) < v 4) → Q 0 (kup σ 0 0 1)) ∧ (((0 : Int) ≤ l1 ∧ (l1 : Int) < v 4) → (wf v ∧ kco σ 5 v ∧ rI (l2)) ∧ (((sKt v (l2)) → (0 ≤ l1 ∧ l1 < 6) ∧ (rI (σ (5 + 20 + l1) 3)) ∧ (rI l2) ∧ ((σ (5 + 20 + l1) 3 ≠ l2 → (0 ≤ l1 ∧ l1 < 6) ∧ Q 1 (kup (kup σ (5 + 20 + l1) 3 l2) 0 0 0)) ∧ (σ (5 + 20 + l1) 3 = l2 → Q 0 (kup σ 0 0 7)))) ∧ (¬ (sKt v (l2)) → Q 0 (kup σ 0 0 1)))))) : Run G WX M_X11_lease 1 0 0 [vA G 0, vI l1, vI l2] σ Q := by
  refine Run.of (by decide +kernel) (by show (3 : Nat) ≤ 3; decide) ?_
  show Ex G WX M_X11_lease 1 0 0 0 [(0, vA G 0), (1, vI l1), (2, vI l2)] [] σ Q
  refine R_aload_n e_X11_lease_0.1 0 rfl ?_
  refine R_getA 11 7 5 e_X11_lease_0.2.1 f_X11_43 kx_0 (fun _ _ => rfl) rx_0_7 (by decide) ?_
  refine R_iload_n e_X11_lease_0.2.2.1 1 rfl ?_
  obtain ⟨q3, h⟩ := h
  refine R_callV (mc := 0) (ms := 0) (mc' := 0) (ms' := 0) (M' := M_X0_hasTenant) (d' := 0) (as := [vI l1]) (st := []) 0 1 e_X11_lease_0.2.2.2.1 (kCVof m_X0_hasTenant l_X11_288) rfl (by decide) (kC_self isC_5) (by decide) (by decide) rfl rfl (by show (0 : Nat) ≤ 8; decide) ?_
  refine Run.mono (P_X0_hasTenant isC_5 q3) (fun rr ss e => ?_)
  obtain ⟨e1, e2⟩ := e
  refine R_eqs (st2 := [vI (kb ((0 : Int) ≤ l1 ∧ (l1 : Int) < v 4))]) (σ2 := σ) (by rw [e1]; rfl) e2 ?_
  refine R_if_eq 22 e_X11_lease_0.2.2.2.2.1 (by decide) (kb_r _) (fun q => ?_) (fun q => ?_)
  · replace h := h.1 (kb_f q)
    refine R_aload_n e_X11_lease_1.1 0 rfl ?_
    refine R_iconst e_X11_lease_1.2.1 ?_
    refine R_callV (mc := 0) (ms := 0) (mc' := 0) (ms' := 0) (M' := M_X11_refuse) (d' := 0) (as := [vI 1]) (st := []) 11 1 e_X11_lease_1.2.2.1 (kCVof m_X11_refuse l_X11_113) rfl (by decide) kx_0 (by decide) (by decide) rfl rfl (by show (0 : Nat) ≤ 8; decide) ?_
    refine S_X11_refuse ?_
    refine R_eqs (st2 := [vI 0]) (σ2 := (kup σ 0 0 1)) rfl rfl ?_
    exact R_zreturn e_X11_lease_1.2.2.2.1 rfl (Or.inl rfl) h
  · replace h := h.2 (kb_t q)
    refine R_aload_n e_X11_lease_0.2.2.2.2.2.1 0 rfl ?_
    refine R_getA 11 7 5 e_X11_lease_0.2.2.2.2.2.2.1 f_X11_43 kx_0 (fun _ _ => rfl) rx_0_7 (by decide) ?_
    refine R_iload_n e_X11_lease_0.2.2.2.2.2.2.2.1 2 rfl ?_
    obtain ⟨q8, h⟩ := h
    refine R_callV (mc := 0) (ms := 0) (mc' := 0) (ms' := 0) (M' := M_X0_hasKite) (d' := 0) (as := [vI l2]) (st := []) 0 1 e_X11_lease_0.2.2.2.2.2.2.2.2.1 (kCVof m_X0_hasKite l_X11_238) rfl (by decide) (kC_self isC_5) (by decide) (by decide) rfl rfl (by show (0 : Nat) ≤ 8; decide) ?_
    refine Run.mono (P_X0_hasKite isC_5 q8) (fun rr ss e => ?_)
    obtain ⟨e1, e2⟩ := e
    refine R_eqs (st2 := [vI (kb (sKt v (l2)))]) (σ2 := σ) (by rw [e1]; rfl) e2 ?_
    refine R_if_ne 28 e_X11_lease_0.2.2.2.2.2.2.2.2.2 (by decide) (kb_r _) (fun q => ?_) (fun q => ?_)
    · replace h := h.1 (kb_t q)
      refine R_aload_n e_X11_lease_1.2.2.2.2.1 0 rfl ?_
      refine R_getA 11 7 5 e_X11_lease_1.2.2.2.2.2.1 f_X11_43 kx_0 (fun _ _ => rfl) rx_0_7 (by decide) ?_
      refine R_getA 0 12 (5 + 5) e_X11_lease_1.2.2.2.2.2.2.1 f_X11_291 (kC_self isC_5) (fun _ _ => rfl) (kC_r12 isC_5) (kC_n5 isC_5) ?_
      refine R_iload_n e_X11_lease_1.2.2.2.2.2.2.2.1 1 rfl ?_
      obtain ⟨q9, h⟩ := h
      refine R_aald 29 6 (5 + 20 + l1) e_X11_lease_1.2.2.2.2.2.2.2.2.1 (by decide) (kC_tens isC_5) q9 (kC_tenAt isC_5 q9) (kC_tenN isC_5 q9) ?_
      refine R_getI 9 3 3 e_X11_lease_1.2.2.2.2.2.2.2.2.2 f_X11_299 (kC_ten isC_5 q9) (fun _ _ => rfl) rfl ?_
      refine R_iload_n e_X11_lease_2.1 2 rfl ?_
      obtain ⟨q10, h⟩ := h
      obtain ⟨q11, h⟩ := h
      refine R_icmp_ne 51 e_X11_lease_2.2.1 (by decide) q10 q11 (fun q => ?_) (fun q => ?_)
      · replace h := h.1 q
        refine R_aload_n e_X11_lease_2.2.2.2.2.2.2.1 0 rfl ?_
        refine R_getA 11 7 5 e_X11_lease_2.2.2.2.2.2.2.2.1 f_X11_43 kx_0 (fun _ _ => rfl) rx_0_7 (by decide) ?_
        refine R_getA 0 12 (5 + 5) e_X11_lease_2.2.2.2.2.2.2.2.2.1 f_X11_291 (kC_self isC_5) (fun _ _ => rfl) (kC_r12 isC_5) (kC_n5 isC_5) ?_
        refine R_iload_n e_X11_lease_2.2.2.2.2.2.2.2.2.2 1 rfl ?_
        obtain ⟨q12, h⟩ := h
        refine R_aald 29 6 (5 + 20 + l1) e_X11_lease_3.1 (by decide) (kC_tens isC_5) q12 (kC_tenAt isC_5 q12) (kC_tenN isC_5 q12) ?_
        refine R_iload_n e_X11_lease_3.2.1 2 rfl ?_
        refine R_putI 9 3 3 WX_ok e_X11_lease_3.2.2.1 f_X11_299 (kC_ten isC_5 q12) rfl rfl rfl ?_
        refine R_aload_n e_X11_lease_3.2.2.2.1 0 rfl ?_
        refine R_callV (mc := 0) (ms := 0) (mc' := 0) (ms' := 0) (M' := M_X11_grant) (d' := 0) (as := []) (st := []) 11 0 e_X11_lease_3.2.2.2.2.1 (kCVof m_X11_grant l_X11_120) rfl (by decide) kx_0 (by decide) (by decide) rfl rfl (by show (0 : Nat) ≤ 8; decide) ?_
        refine S_X11_grant ?_
        refine R_eqs (st2 := [vI 1]) (σ2 := (kup (kup σ (5 + 20 + l1) 3 l2) 0 0 0)) rfl rfl ?_
        exact R_zreturn e_X11_lease_3.2.2.2.2.2 rfl (Or.inr rfl) h
      · replace h := h.2 q
        refine R_aload_n e_X11_lease_2.2.2.1 0 rfl ?_
        refine R_bipush e_X11_lease_2.2.2.2.1 (by decide) ?_
        refine R_callV (mc := 0) (ms := 0) (mc' := 0) (ms' := 0) (M' := M_X11_refuse) (d' := 0) (as := [vI 7]) (st := []) 11 1 e_X11_lease_2.2.2.2.2.1 (kCVof m_X11_refuse l_X11_113) rfl (by decide) kx_0 (by decide) (by decide) rfl rfl (by show (0 : Nat) ≤ 8; decide) ?_
        refine S_X11_refuse ?_
        refine R_eqs (st2 := [vI 0]) (σ2 := (kup σ 0 0 7)) rfl rfl ?_
        exact R_zreturn e_X11_lease_2.2.2.2.2.2.1 rfl (Or.inl rfl) h
    · replace h := h.2 (kb_f q)
      refine R_aload_n e_X11_lease_1.1 0 rfl ?_
      refine R_iconst e_X11_lease_1.2.1 ?_
      refine R_callV (mc := 0) (ms := 0) (mc' := 0) (ms' := 0) (M' := M_X11_refuse) (d' := 0) (as := [vI 1]) (st := []) 11 1 e_X11_lease_1.2.2.1 (kCVof m_X11_refuse l_X11_113) rfl (by decide) kx_0 (by decide) (by decide) rfl rfl (by show (0 : Nat) ≤ 8; decide) ?_
      refine S_X11_refuse ?_
      refine R_eqs (st2 := [vI 0]) (σ2 := (kup σ 0 0 1)) rfl rfl ?_
      exact R_zreturn e_X11_lease_1.2.2.2.1 rfl (Or.inl rfl) h
/-! KiteLand.reap(I)I -/
theorem e_X11_reap_0 : decode cX11_reap 0 = .ok (.aload_n 0, 1) ∧ decode cX11_reap 1 = .ok (.getfield 43, 3) ∧ decode cX11_reap 4 = .ok (.iload_n 1, 1) ∧ decode cX11_reap 5 = .ok (.invokevirtual 271, 3) ∧ decode cX11_reap 8 = .ok (.ifCond .ne 9, 3) ∧ decode cX11_reap 11 = .ok (.aload_n 0, 1) ∧ decode cX11_reap 12 = .ok (.iconst 1, 1) ∧ decode cX11_reap 13 = .ok (.invokevirtual 132, 3) ∧ decode cX11_reap 16 = .ok (.ireturn, 1) ∧ decode cX11_reap 17 = .ok (.aload_n 0, 1) := by decide +kernel
theorem e_X11_reap_1 : decode cX11_reap 18 = .ok (.getfield 43, 3) ∧ decode cX11_reap 21 = .ok (.getfield 274, 3) ∧ decode cX11_reap 24 = .ok (.iload_n 1, 1) ∧ decode cX11_reap 25 = .ok (.aaload, 1) ∧ decode cX11_reap 26 = .ok (.astore_n 2, 1) ∧ decode cX11_reap 27 = .ok (.aload_n 2, 1) ∧ decode cX11_reap 28 = .ok (.invokevirtual 365, 3) ∧ decode cX11_reap 31 = .ok (.ifCond .ne 10, 3) ∧ decode cX11_reap 34 = .ok (.aload_n 0, 1) ∧ decode cX11_reap 35 = .ok (.bipush 7, 2) := by decide +kernel
theorem e_X11_reap_2 : decode cX11_reap 37 = .ok (.invokevirtual 132, 3) ∧ decode cX11_reap 40 = .ok (.ireturn, 1) ∧ decode cX11_reap 41 = .ok (.aload_n 0, 1) ∧ decode cX11_reap 42 = .ok (.invokevirtual 215, 3) ∧ decode cX11_reap 45 = .ok (.aload_n 0, 1) ∧ decode cX11_reap 46 = .ok (.getfield 64, 3) ∧ decode cX11_reap 49 = .ok (.aload_n 2, 1) ∧ decode cX11_reap 50 = .ok (.getfield 278, 3) ∧ decode cX11_reap 53 = .ok (.aload_n 2, 1) ∧ decode cX11_reap 54 = .ok (.getfield 281, 3) := by decide +kernel
theorem e_X11_reap_3 : decode cX11_reap 57 = .ok (.invokevirtual 325, 3) ∧ decode cX11_reap 60 = .ok (.istore_n 3, 1) ∧ decode cX11_reap 61 = .ok (.iload_n 3, 1) ∧ decode cX11_reap 62 = .ok (.iconst (-1), 1) ∧ decode cX11_reap 63 = .ok (.if_icmp .ne 10, 3) ∧ decode cX11_reap 66 = .ok (.aload_n 0, 1) ∧ decode cX11_reap 67 = .ok (.bipush 6, 2) ∧ decode cX11_reap 69 = .ok (.invokevirtual 132, 3) ∧ decode cX11_reap 72 = .ok (.ireturn, 1) ∧ decode cX11_reap 73 = .ok (.aload_n 2, 1) := by decide +kernel
theorem e_X11_reap_4 : decode cX11_reap 74 = .ok (.iconst 0, 1) ∧ decode cX11_reap 75 = .ok (.putfield 285, 3) ∧ decode cX11_reap 78 = .ok (.aload_n 0, 1) ∧ decode cX11_reap 79 = .ok (.getfield 43, 3) ∧ decode cX11_reap 82 = .ok (.getfield 241, 3) ∧ decode cX11_reap 85 = .ok (.iload_n 3, 1) ∧ decode cX11_reap 86 = .ok (.aaload, 1) ∧ decode cX11_reap 87 = .ok (.aload_n 2, 1) ∧ decode cX11_reap 88 = .ok (.getfield 282, 3) ∧ decode cX11_reap 91 = .ok (.invokevirtual 368, 3) := by decide +kernel
theorem e_X11_reap_5 : decode cX11_reap 94 = .ok (.aload_n 0, 1) ∧ decode cX11_reap 95 = .ok (.iload_n 3, 1) ∧ decode cX11_reap 96 = .ok (.invokevirtual 176, 3) ∧ decode cX11_reap 99 = .ok (.ireturn, 1) := by decide +kernel
theorem S_X11_reap {G : Kg} {σ : Kmem} {Q : Int → Kmem → Prop} {l1 : Int} {v : Int → Int}  (h : (wf v ∧ kco σ 5 v ∧ rI (l1)) ∧ ((((0 : Int) ≤ l1 ∧ (l1 : Int) < v 3) → (0 ≤ l1 ∧ l1 < 8) ∧ Run G WX M_X2_isRipe 0 0 0 [vA G (5 + 12 + l1)] σ (fun r5 s6 => (rI r5) ∧ ((r5 ≠ 0 → Run G WX M_X11_lookNow 4 0 0 [vA G 0] s6 (fun r8 s9 => (0 ≤ ((s9 (5 + 12 + l1) 2) * 9) + (s9 (5 + 12 + l1) 1) ∧ ((s9 (5 + 12 + l1) 2) * 9) + (s9 (5 + 12 + l1) 1) < 63) ∧ (rI (s9 63 (((s9 (5 + 12 + l1) 2) * 9) + (s9 (5 + 12 + l1) 1)))) ∧ ((s9 63 (((s9 (5 + 12 + l1) 2) * 9) + (s9 (5 + 12 + l1) 1)) ≠ -1 → (0 ≤ s9 63 (((s9 (5 + 12 + l1) 2) * 9) + (s9 (5 + 12 + l1) 1)) ∧ s9 63 (((s9 (5 + 12 + l1) 2) * 9) + (s9 (5 + 12 + l1) 1)) < 6) ∧ (rI (9999) ∧ rI ((((kup s9 (5 + 12 + l1) 4 0) (5 + 6 + (s9 63 (((s9 (5 + 12 + l1) 2) * 9) + (s9 (5 + 12 + l1) 1)))) 7) + ((kup s9 (5 + 12 + l1) 4 0) (5 + 12 + l1) 3)))) ∧ Q (s9 63 (((s9 (5 + 12 + l1) 2) * 9) + (s9 (5 + 12 + l1) 1))) (kup (kup (kup s9 (5 + 12 + l1) 4 0) (5 + 6 + (s9 63 (((s9 (5 + 12 + l1) 2) * 9) + (s9 (5 + 12 + l1) 1)))) 7 (min (9999) ((((kup s9 (5 + 12 + l1) 4 0) (5 + 6 + (s9 63 (((s9 (5 + 12 + l1) 2) * 9) + (s9 (5 + 12 + l1) 1)))) 7) + ((kup s9 (5 + 12 + l1) 4 0) (5 + 12 + l1) 3))))) 0 0 0)) ∧ (s9 63 (((s9 (5 + 12 + l1) 2) * 9) + (s9 (5 + 12 + l1) 1)) = -1 → Q (-1) (kup s9 0 0 6))))) ∧ (r5 = 0 → Q (-1) (kup s6 0 0 7))))) ∧ (¬ ((0 : Int) ≤ l1 ∧ (l1 : Int) < v 3) → Q (-1) (kup σ 0 0 1)))) : Run G WX M_X11_reap 5 0 0 [vA G 0, vI l1] σ Q := by
  refine Run.of (by decide +kernel) (by show (2 : Nat) ≤ 4; decide) ?_
  show Ex G WX M_X11_reap 5 0 0 0 [(0, vA G 0), (1, vI l1)] [] σ Q
  refine R_aload_n e_X11_reap_0.1 0 rfl ?_
  refine R_getA 11 7 5 e_X11_reap_0.2.1 f_X11_43 kx_0 (fun _ _ => rfl) rx_0_7 (by decide) ?_
  refine R_iload_n e_X11_reap_0.2.2.1 1 rfl ?_
  obtain ⟨q3, h⟩ := h
  refine R_callV (mc := 0) (ms := 0) (mc' := 0) (ms' := 0) (M' := M_X0_hasCrop) (d' := 0) (as := [vI l1]) (st := []) 0 1 e_X11_reap_0.2.2.2.1 (kCVof m_X0_hasCrop l_X11_271) rfl (by decide) (kC_self isC_5) (by decide) (by decide) rfl rfl (by show (0 : Nat) ≤ 8; decide) ?_
  refine Run.mono (P_X0_hasCrop isC_5 q3) (fun rr ss e => ?_)
  obtain ⟨e1, e2⟩ := e
  refine R_eqs (st2 := [vI (kb ((0 : Int) ≤ l1 ∧ (l1 : Int) < v 3))]) (σ2 := σ) (by rw [e1]; rfl) e2 ?_
  refine R_if_ne 17 e_X11_reap_0.2.2.2.2.1 (by decide) (kb_r _) (fun q => ?_) (fun q => ?_)
  · replace h := h.1 (kb_t q)
    refine R_aload_n e_X11_reap_0.2.2.2.2.2.2.2.2.2 0 rfl ?_
    refine R_getA 11 7 5 e_X11_reap_1.1 f_X11_43 kx_0 (fun _ _ => rfl) rx_0_7 (by decide) ?_
    refine R_getA 0 11 (5 + 4) e_X11_reap_1.2.1 f_X11_274 (kC_self isC_5) (fun _ _ => rfl) (kC_r11 isC_5) (kC_n4 isC_5) ?_
    refine R_iload_n e_X11_reap_1.2.2.1 1 rfl ?_
    obtain ⟨q4, h⟩ := h
    refine R_aald 28 8 (5 + 12 + l1) e_X11_reap_1.2.2.2.1 (by decide) (kC_crops isC_5) q4 (kC_cropAt isC_5 q4) (kC_cropN isC_5 q4) ?_
    refine R_astore_n (ls2 := [(2, vA G (5 + 12 + l1)), (0, vA G 0), (1, vI l1)]) e_X11_reap_1.2.2.2.2.1 (by decide) rfl ?_
    refine R_aload_n e_X11_reap_1.2.2.2.2.2.1 0 rfl ?_
    refine R_callV (mc := 0) (ms := 0) (mc' := 0) (ms' := 0) (M' := M_X2_isRipe) (d' := 0) (as := []) (st := []) 2 0 e_X11_reap_1.2.2.2.2.2.2.1 (kCVof m_X2_isRipe l_X11_365) rfl (by decide) (kC_crop isC_5 q4) (by decide) (by decide) rfl rfl (by show (0 : Nat) ≤ 8; decide) ?_
    refine Run.mono h (fun r5 s6 h => ?_)
    refine R_eqs (st2 := [vI r5]) rfl rfl ?_
    obtain ⟨q7, h⟩ := h
    refine R_if_ne 41 e_X11_reap_1.2.2.2.2.2.2.2.1 (by decide) q7  (fun q => ?_) (fun q => ?_)
    · replace h := h.1 q
      refine R_aload_n e_X11_reap_2.2.2.1 1 rfl ?_
      refine R_callV (mc := 0) (ms := 0) (mc' := 0) (ms' := 0) (M' := M_X11_lookNow) (d' := 4) (as := []) (st := []) 11 0 e_X11_reap_2.2.2.2.1 (kCVof m_X11_lookNow l_X11_215) rfl (by decide) kx_0 (by decide) (by decide) rfl rfl (by show (0 : Nat) ≤ 8; decide) ?_
      refine Run.mono h (fun r8 s9 h => ?_)
      refine R_eqs (st2 := []) rfl rfl ?_
      refine R_aload_n e_X11_reap_2.2.2.2.2.1 1 rfl ?_
      refine R_getA 11 10 58 e_X11_reap_2.2.2.2.2.2.1 f_X11_64 kx_0 (fun _ _ => rfl) rx_0_10 (by decide) ?_
      refine R_aload_n e_X11_reap_2.2.2.2.2.2.2.1 0 rfl ?_
      refine R_getI 2 1 1 e_X11_reap_2.2.2.2.2.2.2.2.1 f_X11_278 (kC_crop isC_5 q4) (fun _ _ => rfl) rfl ?_
      refine R_aload_n e_X11_reap_2.2.2.2.2.2.2.2.2.1 0 rfl ?_
      refine R_getI 2 2 2 e_X11_reap_2.2.2.2.2.2.2.2.2.2 f_X11_281 (kC_crop isC_5 q4) (fun _ _ => rfl) rfl ?_
      refine R_callV (mc := 0) (ms := 0) (mc' := 0) (ms' := 0) (M' := M_X8_ownerOf) (d' := 0) (as := [vI (s9 (5 + 12 + l1) 1), vI (s9 (5 + 12 + l1) 2)]) (st := []) 8 2 e_X11_reap_3.1 (kCVof m_X8_ownerOf l_X11_325) rfl (by decide) kx_58 (by decide) (by decide) rfl rfl (by show (0 : Nat) ≤ 8; decide) ?_
      obtain ⟨q12, h⟩ := h
      refine S_X8_ownerOf ⟨q12, ?_⟩
      refine R_eqs (st2 := [vI (s9 63 (((s9 (5 + 12 + l1) 2) * 9) + (s9 (5 + 12 + l1) 1)))]) (σ2 := s9) rfl rfl ?_
      refine R_istore_n (ls2 := [(3, vI (s9 63 (((s9 (5 + 12 + l1) 2) * 9) + (s9 (5 + 12 + l1) 1)))), (2, vA G (5 + 12 + l1)), (0, vA G 0), (1, vI l1)]) e_X11_reap_3.2.1 (by decide) rfl ?_
      refine R_iload_n e_X11_reap_3.2.2.1 0 rfl ?_
      refine R_iconst e_X11_reap_3.2.2.2.1 ?_
      obtain ⟨q13, h⟩ := h
      refine R_icmp_ne 73 e_X11_reap_3.2.2.2.2.1 (by decide) q13 (by decide) (fun q => ?_) (fun q => ?_)
      · replace h := h.1 q
        refine R_aload_n e_X11_reap_3.2.2.2.2.2.2.2.2.2 1 rfl ?_
        refine R_iconst e_X11_reap_4.1 ?_
        refine R_putI 2 4 4 WX_ok e_X11_reap_4.2.1 f_X11_285 (kC_crop isC_5 q4) rfl rfl rfl ?_
        refine R_aload_n e_X11_reap_4.2.2.1 2 rfl ?_
        refine R_getA 11 7 5 e_X11_reap_4.2.2.2.1 f_X11_43 kx_0 (fun _ _ => rfl) rx_0_7 (by decide) ?_
        refine R_getA 0 10 (5 + 3) e_X11_reap_4.2.2.2.2.1 f_X11_241 (kC_self isC_5) (fun _ _ => rfl) (kC_r10 isC_5) (kC_n3 isC_5) ?_
        refine R_iload_n e_X11_reap_4.2.2.2.2.2.1 0 rfl ?_
        obtain ⟨q14, h⟩ := h
        refine R_aald 27 6 (5 + 6 + (s9 63 (((s9 (5 + 12 + l1) 2) * 9) + (s9 (5 + 12 + l1) 1)))) e_X11_reap_4.2.2.2.2.2.2.1 (by decide) (kC_kites isC_5) q14 (kC_kiteAt isC_5 q14) (kC_kiteN isC_5 q14) ?_
        refine R_aload_n e_X11_reap_4.2.2.2.2.2.2.2.1 1 rfl ?_
        refine R_getI 2 3 3 e_X11_reap_4.2.2.2.2.2.2.2.2.1 f_X11_282 (kC_crop isC_5 q4) (fun _ _ => rfl) rfl ?_
        refine R_callV (mc := 0) (ms := 0) (mc' := 0) (ms' := 0) (M' := M_X3_earn) (d' := 1) (as := [vI ((kup s9 (5 + 12 + l1) 4 0) (5 + 12 + l1) 3)]) (st := []) 3 1 e_X11_reap_4.2.2.2.2.2.2.2.2.2 (kCVof m_X3_earn l_X11_368) rfl (by decide) (kC_kite isC_5 q14) (by decide) (by decide) rfl rfl (by show (0 : Nat) ≤ 8; decide) ?_
        obtain ⟨q19, h⟩ := h
        refine S_X3_earn (kC_kite (σ := fun _ _ => 0) isC_5 q14) ⟨q19, ?_⟩
        refine R_eqs (st2 := []) (σ2 := (kup (kup s9 (5 + 12 + l1) 4 0) (5 + 6 + (s9 63 (((s9 (5 + 12 + l1) 2) * 9) + (s9 (5 + 12 + l1) 1)))) 7 (min (9999) ((((kup s9 (5 + 12 + l1) 4 0) (5 + 6 + (s9 63 (((s9 (5 + 12 + l1) 2) * 9) + (s9 (5 + 12 + l1) 1)))) 7) + ((kup s9 (5 + 12 + l1) 4 0) (5 + 12 + l1) 3)))))) rfl rfl ?_
        refine R_aload_n e_X11_reap_5.1 2 rfl ?_
        refine R_iload_n e_X11_reap_5.2.1 0 rfl ?_
        refine R_callV (mc := 0) (ms := 0) (mc' := 0) (ms' := 0) (M' := M_X11_give) (d' := 0) (as := [vI (s9 63 (((s9 (5 + 12 + l1) 2) * 9) + (s9 (5 + 12 + l1) 1)))]) (st := []) 11 1 e_X11_reap_5.2.2.1 (kCVof m_X11_give l_X11_176) rfl (by decide) kx_0 (by decide) (by decide) rfl rfl (by show (0 : Nat) ≤ 8; decide) ?_
        refine S_X11_give ?_
        refine R_eqs (st2 := [vI (s9 63 (((s9 (5 + 12 + l1) 2) * 9) + (s9 (5 + 12 + l1) 1)))]) (σ2 := (kup (kup (kup s9 (5 + 12 + l1) 4 0) (5 + 6 + (s9 63 (((s9 (5 + 12 + l1) 2) * 9) + (s9 (5 + 12 + l1) 1)))) 7 (min (9999) ((((kup s9 (5 + 12 + l1) 4 0) (5 + 6 + (s9 63 (((s9 (5 + 12 + l1) 2) * 9) + (s9 (5 + 12 + l1) 1)))) 7) + ((kup s9 (5 + 12 + l1) 4 0) (5 + 12 + l1) 3))))) 0 0 0)) rfl rfl ?_
        exact R_ireturn e_X11_reap_5.2.2.2 rfl h
      · replace h := h.2 q
        refine R_aload_n e_X11_reap_3.2.2.2.2.2.1 2 rfl ?_
        refine R_bipush e_X11_reap_3.2.2.2.2.2.2.1 (by decide) ?_
        refine R_callV (mc := 0) (ms := 0) (mc' := 0) (ms' := 0) (M' := M_X11_deny) (d' := 0) (as := [vI 6]) (st := []) 11 1 e_X11_reap_3.2.2.2.2.2.2.2.1 (kCVof m_X11_deny l_X11_132) rfl (by decide) kx_0 (by decide) (by decide) rfl rfl (by show (0 : Nat) ≤ 8; decide) ?_
        refine S_X11_deny ?_
        refine R_eqs (st2 := [vI (-1)]) (σ2 := (kup s9 0 0 6)) rfl rfl ?_
        exact R_ireturn e_X11_reap_3.2.2.2.2.2.2.2.2.1 rfl h
    · replace h := h.2 q
      refine R_aload_n e_X11_reap_1.2.2.2.2.2.2.2.2.1 1 rfl ?_
      refine R_bipush e_X11_reap_1.2.2.2.2.2.2.2.2.2 (by decide) ?_
      refine R_callV (mc := 0) (ms := 0) (mc' := 0) (ms' := 0) (M' := M_X11_deny) (d' := 0) (as := [vI 7]) (st := []) 11 1 e_X11_reap_2.1 (kCVof m_X11_deny l_X11_132) rfl (by decide) kx_0 (by decide) (by decide) rfl rfl (by show (0 : Nat) ≤ 8; decide) ?_
      refine S_X11_deny ?_
      refine R_eqs (st2 := [vI (-1)]) (σ2 := (kup s6 0 0 7)) rfl rfl ?_
      exact R_ireturn e_X11_reap_2.2.1 rfl h
  · replace h := h.2 (kb_f q)
    refine R_aload_n e_X11_reap_0.2.2.2.2.2.1 0 rfl ?_
    refine R_iconst e_X11_reap_0.2.2.2.2.2.2.1 ?_
    refine R_callV (mc := 0) (ms := 0) (mc' := 0) (ms' := 0) (M' := M_X11_deny) (d' := 0) (as := [vI 1]) (st := []) 11 1 e_X11_reap_0.2.2.2.2.2.2.2.1 (kCVof m_X11_deny l_X11_132) rfl (by decide) kx_0 (by decide) (by decide) rfl rfl (by show (0 : Nat) ≤ 8; decide) ?_
    refine S_X11_deny ?_
    refine R_eqs (st2 := [vI (-1)]) (σ2 := (kup σ 0 0 1)) rfl rfl ?_
    exact R_ireturn e_X11_reap_0.2.2.2.2.2.2.2.2.1 rfl h
/-! KiteLand.ripe(I)I -/
theorem e_X11_ripe_0 : decode cX11_ripe 0 = .ok (.aload_n 0, 1) ∧ decode cX11_ripe 1 = .ok (.getfield 43, 3) ∧ decode cX11_ripe 4 = .ok (.iload_n 1, 1) ∧ decode cX11_ripe 5 = .ok (.invokevirtual 271, 3) ∧ decode cX11_ripe 8 = .ok (.ifCond .ne 9, 3) ∧ decode cX11_ripe 11 = .ok (.aload_n 0, 1) ∧ decode cX11_ripe 12 = .ok (.iconst 1, 1) ∧ decode cX11_ripe 13 = .ok (.invokevirtual 132, 3) ∧ decode cX11_ripe 16 = .ok (.ireturn, 1) ∧ decode cX11_ripe 17 = .ok (.aload_n 0, 1) := by decide +kernel
theorem e_X11_ripe_1 : decode cX11_ripe 18 = .ok (.getfield 47, 3) ∧ decode cX11_ripe 21 = .ok (.aload_n 0, 1) ∧ decode cX11_ripe 22 = .ok (.getfield 43, 3) ∧ decode cX11_ripe 25 = .ok (.invokevirtual 167, 3) ∧ decode cX11_ripe 28 = .ok (.aload_n 0, 1) ∧ decode cX11_ripe 29 = .ok (.getfield 47, 3) ∧ decode cX11_ripe 32 = .ok (.getfield 274, 3) ∧ decode cX11_ripe 35 = .ok (.iload_n 1, 1) ∧ decode cX11_ripe 36 = .ok (.aaload, 1) ∧ decode cX11_ripe 37 = .ok (.astore_n 2, 1) := by decide +kernel
theorem e_X11_ripe_2 : decode cX11_ripe 38 = .ok (.iconst 0, 1) ∧ decode cX11_ripe 39 = .ok (.istore_n 3, 1) ∧ decode cX11_ripe 40 = .ok (.iload_n 3, 1) ∧ decode cX11_ripe 41 = .ok (.sipush 999, 3) ∧ decode cX11_ripe 44 = .ok (.if_icmp .gt 70, 3) ∧ decode cX11_ripe 47 = .ok (.aload_n 2, 1) ∧ decode cX11_ripe 48 = .ok (.invokevirtual 365, 3) ∧ decode cX11_ripe 51 = .ok (.ifCond .eq 9, 3) ∧ decode cX11_ripe 54 = .ok (.aload_n 0, 1) ∧ decode cX11_ripe 55 = .ok (.iload_n 3, 1) := by decide +kernel
theorem e_X11_ripe_3 : decode cX11_ripe 56 = .ok (.invokevirtual 176, 3) ∧ decode cX11_ripe 59 = .ok (.ireturn, 1) ∧ decode cX11_ripe 60 = .ok (.aload_n 0, 1) ∧ decode cX11_ripe 61 = .ok (.getfield 47, 3) ∧ decode cX11_ripe 64 = .ok (.aload_n 0, 1) ∧ decode cX11_ripe 65 = .ok (.getfield 64, 3) ∧ decode cX11_ripe 68 = .ok (.invokevirtual 371, 3) ∧ decode cX11_ripe 71 = .ok (.pop, 1) ∧ decode cX11_ripe 72 = .ok (.aload_n 0, 1) ∧ decode cX11_ripe 73 = .ok (.getfield 64, 3) := by decide +kernel
theorem e_X11_ripe_4 : decode cX11_ripe 76 = .ok (.aload_n 2, 1) ∧ decode cX11_ripe 77 = .ok (.getfield 278, 3) ∧ decode cX11_ripe 80 = .ok (.aload_n 2, 1) ∧ decode cX11_ripe 81 = .ok (.getfield 281, 3) ∧ decode cX11_ripe 84 = .ok (.invokevirtual 325, 3) ∧ decode cX11_ripe 87 = .ok (.iconst (-1), 1) ∧ decode cX11_ripe 88 = .ok (.if_icmp .eq 7, 3) ∧ decode cX11_ripe 91 = .ok (.aload_n 2, 1) ∧ decode cX11_ripe 92 = .ok (.invokevirtual 375, 3) ∧ decode cX11_ripe 95 = .ok (.aload_n 0, 1) := by decide +kernel
theorem e_X11_ripe_5 : decode cX11_ripe 96 = .ok (.getfield 47, 3) ∧ decode cX11_ripe 99 = .ok (.dup, 1) ∧ decode cX11_ripe 100 = .ok (.getfield 212, 3) ∧ decode cX11_ripe 103 = .ok (.iconst 1, 1) ∧ decode cX11_ripe 104 = .ok (.iadd, 1) ∧ decode cX11_ripe 105 = .ok (.putfield 212, 3) ∧ decode cX11_ripe 108 = .ok (.iinc 3 1, 3) ∧ decode cX11_ripe 111 = .ok (.goto (-71), 3) ∧ decode cX11_ripe 114 = .ok (.aload_n 0, 1) ∧ decode cX11_ripe 115 = .ok (.bipush 6, 2) := by decide +kernel
theorem e_X11_ripe_6 : decode cX11_ripe 117 = .ok (.invokevirtual 132, 3) ∧ decode cX11_ripe 120 = .ok (.ireturn, 1) := by decide +kernel
abbrev E_X11_ripe_40 (G : Kg) (l2 l3 : Int) (σ : Kmem) (Q : Int → Kmem → Prop) : Prop := Ex G WX M_X11_ripe 4 0 0 40 [(0, vA G 0), (2, vA G l2), (3, vI l3)] [] σ Q
theorem S_X11_ripe {G : Kg} {σ : Kmem} {Q : Int → Kmem → Prop} {l1 : Int} {v : Int → Int}  (h : (wf v ∧ kco σ 5 v ∧ rI (l1)) ∧ ((((0 : Int) ≤ l1 ∧ (l1 : Int) < v 3) → Run G WX M_X0_copy 1 0 0 [vA G 31, vA G 5] σ (fun r4 s5 => (0 ≤ l1 ∧ l1 < 8) ∧ E_X11_ripe_40 G (31 + 12 + l1) 0 s5 Q)) ∧ (¬ ((0 : Int) ≤ l1 ∧ (l1 : Int) < v 3) → Q (-1) (kup σ 0 0 1)))) : Run G WX M_X11_ripe 4 0 0 [vA G 0, vI l1] σ Q := by
  refine Run.of (by decide +kernel) (by show (2 : Nat) ≤ 4; decide) ?_
  show Ex G WX M_X11_ripe 4 0 0 0 [(0, vA G 0), (1, vI l1)] [] σ Q
  refine R_aload_n e_X11_ripe_0.1 0 rfl ?_
  refine R_getA 11 7 5 e_X11_ripe_0.2.1 f_X11_43 kx_0 (fun _ _ => rfl) rx_0_7 (by decide) ?_
  refine R_iload_n e_X11_ripe_0.2.2.1 1 rfl ?_
  obtain ⟨q3, h⟩ := h
  refine R_callV (mc := 0) (ms := 0) (mc' := 0) (ms' := 0) (M' := M_X0_hasCrop) (d' := 0) (as := [vI l1]) (st := []) 0 1 e_X11_ripe_0.2.2.2.1 (kCVof m_X0_hasCrop l_X11_271) rfl (by decide) (kC_self isC_5) (by decide) (by decide) rfl rfl (by show (0 : Nat) ≤ 8; decide) ?_
  refine Run.mono (P_X0_hasCrop isC_5 q3) (fun rr ss e => ?_)
  obtain ⟨e1, e2⟩ := e
  refine R_eqs (st2 := [vI (kb ((0 : Int) ≤ l1 ∧ (l1 : Int) < v 3))]) (σ2 := σ) (by rw [e1]; rfl) e2 ?_
  refine R_if_ne 17 e_X11_ripe_0.2.2.2.2.1 (by decide) (kb_r _) (fun q => ?_) (fun q => ?_)
  · replace h := h.1 (kb_t q)
    refine R_aload_n e_X11_ripe_0.2.2.2.2.2.2.2.2.2 0 rfl ?_
    refine R_getA 11 8 31 e_X11_ripe_1.1 f_X11_47 kx_0 (fun _ _ => rfl) rx_0_8 (by decide) ?_
    refine R_aload_n e_X11_ripe_1.2.1 0 rfl ?_
    refine R_getA 11 7 5 e_X11_ripe_1.2.2.1 f_X11_43 kx_0 (fun _ _ => rfl) rx_0_7 (by decide) ?_
    refine R_callV (mc := 0) (ms := 0) (mc' := 0) (ms' := 0) (M' := M_X0_copy) (d' := 1) (as := [vA G 5]) (st := []) 0 1 e_X11_ripe_1.2.2.2.1 (kCVof m_X0_copy l_X11_167) rfl (by decide) (kC_self isC_31) (by decide) (by decide) rfl rfl (by show (0 : Nat) ≤ 8; decide) ?_
    refine Run.mono h (fun r4 s5 h => ?_)
    refine R_eqs (st2 := []) rfl rfl ?_
    refine R_aload_n e_X11_ripe_1.2.2.2.2.1 0 rfl ?_
    refine R_getA 11 8 31 e_X11_ripe_1.2.2.2.2.2.1 f_X11_47 kx_0 (fun _ _ => rfl) rx_0_8 (by decide) ?_
    refine R_getA 0 11 (31 + 4) e_X11_ripe_1.2.2.2.2.2.2.1 f_X11_274 (kC_self isC_31) (fun _ _ => rfl) (kC_r11 isC_31) (kC_n4 isC_31) ?_
    refine R_iload_n e_X11_ripe_1.2.2.2.2.2.2.2.1 1 rfl ?_
    obtain ⟨q6, h⟩ := h
    refine R_aald 28 8 (31 + 12 + l1) e_X11_ripe_1.2.2.2.2.2.2.2.2.1 (by decide) (kC_crops isC_31) q6 (kC_cropAt isC_31 q6) (kC_cropN isC_31 q6) ?_
    refine R_astore_n (ls2 := [(2, vA G (31 + 12 + l1)), (0, vA G 0), (1, vI l1)]) e_X11_ripe_1.2.2.2.2.2.2.2.2.2 (by decide) rfl ?_
    refine R_iconst e_X11_ripe_2.1 ?_
    refine R_istore_n (ls2 := [(3, vI 0), (2, vA G (31 + 12 + l1)), (0, vA G 0), (1, vI l1)]) e_X11_ripe_2.2.1 (by decide) rfl ?_
    refine R_ls (ls2 := [(0, vA G 0), (2, vA G (31 + 12 + l1)), (3, vI 0)]) [2, 1, 0] rfl ?_
    exact h
  · replace h := h.2 (kb_f q)
    refine R_aload_n e_X11_ripe_0.2.2.2.2.2.1 0 rfl ?_
    refine R_iconst e_X11_ripe_0.2.2.2.2.2.2.1 ?_
    refine R_callV (mc := 0) (ms := 0) (mc' := 0) (ms' := 0) (M' := M_X11_deny) (d' := 0) (as := [vI 1]) (st := []) 11 1 e_X11_ripe_0.2.2.2.2.2.2.2.1 (kCVof m_X11_deny l_X11_132) rfl (by decide) kx_0 (by decide) (by decide) rfl rfl (by show (0 : Nat) ≤ 8; decide) ?_
    refine S_X11_deny ?_
    refine R_eqs (st2 := [vI (-1)]) (σ2 := (kup σ 0 0 1)) rfl rfl ?_
    exact R_ireturn e_X11_ripe_0.2.2.2.2.2.2.2.2.1 rfl h
theorem S_X11_ripe_40 {G : Kg} {σ : Kmem} {Q : Int → Kmem → Prop} {l1 l2 l3 : Int}  (hl2 : kIsX l2 2) (h : (rI l3) ∧ ((999 < l3 → Q (-1) (kup σ 0 0 6)) ∧ (l3 ≤ 999 → Run G WX M_X2_isRipe 0 0 0 [vA G l2] σ (fun r12 s13 => (rI r12) ∧ ((r12 = 0 → Run G WX M_X0_loseCrossed 3 0 0 [vA G 31, vA G 58] s13 (fun r15 s16 => (0 ≤ ((s16 l2 2) * 9) + (s16 l2 1) ∧ ((s16 l2 2) * 9) + (s16 l2 1) < 63) ∧ (rI (s16 63 (((s16 l2 2) * 9) + (s16 l2 1)))) ∧ ((s16 63 (((s16 l2 2) * 9) + (s16 l2 1)) = -1 → E_X11_ripe_40 G l2 (l3 + 1) (kup s16 31 4 ((s16 31 4) + 1)) Q) ∧ (s16 63 (((s16 l2 2) * 9) + (s16 l2 1)) ≠ -1 → (rI (99) ∧ rI (((s16 l2 4) + 1))) ∧ E_X11_ripe_40 G l2 (l3 + 1) (kup (kup s16 l2 4 (min (99) (((s16 l2 4) + 1)))) 31 4 (((kup s16 l2 4 (min (99) (((s16 l2 4) + 1)))) 31 4) + 1)) Q)))) ∧ (r12 ≠ 0 → Q l3 (kup s13 0 0 0))))))) : E_X11_ripe_40 G l2 l3 σ Q := by
  refine R_iload_n e_X11_ripe_2.2.2.1 2 rfl ?_
  refine R_sipush e_X11_ripe_2.2.2.2.1 (by decide) ?_
  obtain ⟨q9, h⟩ := h
  refine R_icmp_gt 114 e_X11_ripe_2.2.2.2.2.1 (by decide) q9 (by decide) (fun q => ?_) (fun q => ?_)
  · replace h := h.1 q
    refine R_aload_n e_X11_ripe_5.2.2.2.2.2.2.2.2.1 0 rfl ?_
    refine R_bipush e_X11_ripe_5.2.2.2.2.2.2.2.2.2 (by decide) ?_
    refine R_callV (mc := 0) (ms := 0) (mc' := 0) (ms' := 0) (M' := M_X11_deny) (d' := 0) (as := [vI 6]) (st := []) 11 1 e_X11_ripe_6.1 (kCVof m_X11_deny l_X11_132) rfl (by decide) kx_0 (by decide) (by decide) rfl rfl (by show (0 : Nat) ≤ 8; decide) ?_
    refine S_X11_deny ?_
    refine R_eqs (st2 := [vI (-1)]) (σ2 := (kup σ 0 0 6)) rfl rfl ?_
    exact R_ireturn e_X11_ripe_6.2 rfl h
  · replace h := h.2 q
    refine R_aload_n e_X11_ripe_2.2.2.2.2.2.1 1 rfl ?_
    refine R_callV (mc := 0) (ms := 0) (mc' := 0) (ms' := 0) (M' := M_X2_isRipe) (d' := 0) (as := []) (st := []) 2 0 e_X11_ripe_2.2.2.2.2.2.2.1 (kCVof m_X2_isRipe l_X11_365) rfl (by decide) (kLX hl2) (by decide) (by decide) rfl rfl (by show (0 : Nat) ≤ 8; decide) ?_
    refine Run.mono h (fun r12 s13 h => ?_)
    refine R_eqs (st2 := [vI r12]) rfl rfl ?_
    obtain ⟨q14, h⟩ := h
    refine R_if_eq 60 e_X11_ripe_2.2.2.2.2.2.2.2.1 (by decide) q14  (fun q => ?_) (fun q => ?_)
    · replace h := h.1 q
      refine R_aload_n e_X11_ripe_3.2.2.1 0 rfl ?_
      refine R_getA 11 8 31 e_X11_ripe_3.2.2.2.1 f_X11_47 kx_0 (fun _ _ => rfl) rx_0_8 (by decide) ?_
      refine R_aload_n e_X11_ripe_3.2.2.2.2.1 0 rfl ?_
      refine R_getA 11 10 58 e_X11_ripe_3.2.2.2.2.2.1 f_X11_64 kx_0 (fun _ _ => rfl) rx_0_10 (by decide) ?_
      refine R_callV (mc := 0) (ms := 0) (mc' := 0) (ms' := 0) (M' := M_X0_loseCrossed) (d' := 3) (as := [vA G 58]) (st := []) 0 1 e_X11_ripe_3.2.2.2.2.2.2.1 (kCVof m_X0_loseCrossed l_X11_371) rfl (by decide) (kC_self isC_31) (by decide) (by decide) rfl rfl (by show (0 : Nat) ≤ 8; decide) ?_
      refine Run.mono h (fun r15 s16 h => ?_)
      refine R_eqs (st2 := [vI r15]) rfl rfl ?_
      refine R_pop e_X11_ripe_3.2.2.2.2.2.2.2.1 rfl ?_
      refine R_aload_n e_X11_ripe_3.2.2.2.2.2.2.2.2.1 0 rfl ?_
      refine R_getA 11 10 58 e_X11_ripe_3.2.2.2.2.2.2.2.2.2 f_X11_64 kx_0 (fun _ _ => rfl) rx_0_10 (by decide) ?_
      refine R_aload_n e_X11_ripe_4.1 1 rfl ?_
      refine R_getI 2 1 1 e_X11_ripe_4.2.1 f_X11_278 (kLX hl2) (fun _ _ => rfl) rfl ?_
      refine R_aload_n e_X11_ripe_4.2.2.1 1 rfl ?_
      refine R_getI 2 2 2 e_X11_ripe_4.2.2.2.1 f_X11_281 (kLX hl2) (fun _ _ => rfl) rfl ?_
      refine R_callV (mc := 0) (ms := 0) (mc' := 0) (ms' := 0) (M' := M_X8_ownerOf) (d' := 0) (as := [vI (s16 l2 1), vI (s16 l2 2)]) (st := []) 8 2 e_X11_ripe_4.2.2.2.2.1 (kCVof m_X8_ownerOf l_X11_325) rfl (by decide) kx_58 (by decide) (by decide) rfl rfl (by show (0 : Nat) ≤ 8; decide) ?_
      obtain ⟨q19, h⟩ := h
      refine S_X8_ownerOf ⟨q19, ?_⟩
      refine R_eqs (st2 := [vI (s16 63 (((s16 l2 2) * 9) + (s16 l2 1)))]) (σ2 := s16) rfl rfl ?_
      refine R_iconst e_X11_ripe_4.2.2.2.2.2.1 ?_
      obtain ⟨q20, h⟩ := h
      refine R_icmp_eq 95 e_X11_ripe_4.2.2.2.2.2.2.1 (by decide) q20 (by decide) (fun q => ?_) (fun q => ?_)
      · replace h := h.1 q
        refine R_aload_n e_X11_ripe_4.2.2.2.2.2.2.2.2.2 0 rfl ?_
        refine R_getA 11 8 31 e_X11_ripe_5.1 f_X11_47 kx_0 (fun _ _ => rfl) rx_0_8 (by decide) ?_
        refine R_dup e_X11_ripe_5.2.1 rfl ?_
        refine R_getI 0 4 4 e_X11_ripe_5.2.2.1 f_X11_212 (kC_self isC_31) (fun _ _ => rfl) rfl ?_
        refine R_iconst e_X11_ripe_5.2.2.2.1 ?_
        refine R_iadd e_X11_ripe_5.2.2.2.2.1 ?_
        refine R_putI 0 4 4 WX_ok e_X11_ripe_5.2.2.2.2.2.1 f_X11_212 (kC_self isC_31) rfl rfl rfl ?_
        refine R_iinc (ls2 := [(3, vI (l3 + 1)), (0, vA G 0), (2, vA G l2)]) e_X11_ripe_5.2.2.2.2.2.2.1 2 rfl (by decide) rfl ?_
        refine R_goto 40 e_X11_ripe_5.2.2.2.2.2.2.2.1 (by decide) ?_
        refine R_ls (ls2 := [(0, vA G 0), (2, vA G l2), (3, vI (l3 + 1))]) [1, 2, 0] rfl ?_
        exact h
      · replace h := h.2 q
        refine R_aload_n e_X11_ripe_4.2.2.2.2.2.2.2.1 1 rfl ?_
        refine R_callV (mc := 0) (ms := 0) (mc' := 0) (ms' := 0) (M' := M_X2_grow) (d' := 1) (as := []) (st := []) 2 0 e_X11_ripe_4.2.2.2.2.2.2.2.2.1 (kCVof m_X2_grow l_X11_375) rfl (by decide) (kLX hl2) (by decide) (by decide) rfl rfl (by show (0 : Nat) ≤ 8; decide) ?_
        obtain ⟨q25, h⟩ := h
        refine S_X2_grow hl2 ⟨q25, ?_⟩
        refine R_eqs (st2 := []) (σ2 := (kup s16 l2 4 (min (99) (((s16 l2 4) + 1))))) rfl rfl ?_
        refine R_aload_n e_X11_ripe_4.2.2.2.2.2.2.2.2.2 0 rfl ?_
        refine R_getA 11 8 31 e_X11_ripe_5.1 f_X11_47 kx_0 (fun _ _ => rfl) rx_0_8 (by decide) ?_
        refine R_dup e_X11_ripe_5.2.1 rfl ?_
        refine R_getI 0 4 4 e_X11_ripe_5.2.2.1 f_X11_212 (kC_self isC_31) (fun _ _ => rfl) rfl ?_
        refine R_iconst e_X11_ripe_5.2.2.2.1 ?_
        refine R_iadd e_X11_ripe_5.2.2.2.2.1 ?_
        refine R_putI 0 4 4 WX_ok e_X11_ripe_5.2.2.2.2.2.1 f_X11_212 (kC_self isC_31) rfl rfl rfl ?_
        refine R_iinc (ls2 := [(3, vI (l3 + 1)), (0, vA G 0), (2, vA G l2)]) e_X11_ripe_5.2.2.2.2.2.2.1 2 rfl (by decide) rfl ?_
        refine R_goto 40 e_X11_ripe_5.2.2.2.2.2.2.2.1 (by decide) ?_
        refine R_ls (ls2 := [(0, vA G 0), (2, vA G l2), (3, vI (l3 + 1))]) [1, 2, 0] rfl ?_
        exact h
    · replace h := h.2 q
      refine R_aload_n e_X11_ripe_2.2.2.2.2.2.2.2.2.1 0 rfl ?_
      refine R_iload_n e_X11_ripe_2.2.2.2.2.2.2.2.2.2 2 rfl ?_
      refine R_callV (mc := 0) (ms := 0) (mc' := 0) (ms' := 0) (M' := M_X11_give) (d' := 0) (as := [vI l3]) (st := []) 11 1 e_X11_ripe_3.1 (kCVof m_X11_give l_X11_176) rfl (by decide) kx_0 (by decide) (by decide) rfl rfl (by show (0 : Nat) ≤ 8; decide) ?_
      refine S_X11_give ?_
      refine R_eqs (st2 := [vI l3]) (σ2 := (kup s13 0 0 0)) rfl rfl ?_
      exact R_ireturn e_X11_ripe_3.2.1 rfl h
/-! KiteLand.leaseOf(IIII)I -/
theorem e_X11_leaseOf_0 : decode cX11_leaseOf 0 = .ok (.aload_n 0, 1) ∧ decode cX11_leaseOf 1 = .ok (.getfield 43, 3) ∧ decode cX11_leaseOf 4 = .ok (.iload_n 1, 1) ∧ decode cX11_leaseOf 5 = .ok (.iload_n 2, 1) ∧ decode cX11_leaseOf 6 = .ok (.invokevirtual 321, 3) ∧ decode cX11_leaseOf 9 = .ok (.ifCond .eq 23, 3) ∧ decode cX11_leaseOf 12 = .ok (.aload_n 0, 1) ∧ decode cX11_leaseOf 13 = .ok (.getfield 43, 3) ∧ decode cX11_leaseOf 16 = .ok (.iload_n 3, 1) ∧ decode cX11_leaseOf 17 = .ok (.invokevirtual 238, 3) := by decide +kernel
theorem e_X11_leaseOf_1 : decode cX11_leaseOf 20 = .ok (.ifCond .eq 12, 3) ∧ decode cX11_leaseOf 23 = .ok (.aload_n 0, 1) ∧ decode cX11_leaseOf 24 = .ok (.iload 4, 2) ∧ decode cX11_leaseOf 26 = .ok (.invokevirtual 378, 3) ∧ decode cX11_leaseOf 29 = .ok (.ifCond .ne 9, 3) ∧ decode cX11_leaseOf 32 = .ok (.aload_n 0, 1) ∧ decode cX11_leaseOf 33 = .ok (.iconst 1, 1) ∧ decode cX11_leaseOf 34 = .ok (.invokevirtual 132, 3) ∧ decode cX11_leaseOf 37 = .ok (.ireturn, 1) ∧ decode cX11_leaseOf 38 = .ok (.aload_n 0, 1) := by decide +kernel
theorem e_X11_leaseOf_2 : decode cX11_leaseOf 39 = .ok (.getfield 47, 3) ∧ decode cX11_leaseOf 42 = .ok (.aload_n 0, 1) ∧ decode cX11_leaseOf 43 = .ok (.getfield 43, 3) ∧ decode cX11_leaseOf 46 = .ok (.invokevirtual 167, 3) ∧ decode cX11_leaseOf 49 = .ok (.iconst 0, 1) ∧ decode cX11_leaseOf 50 = .ok (.istore 5, 2) ∧ decode cX11_leaseOf 52 = .ok (.iconst 0, 1) ∧ decode cX11_leaseOf 53 = .ok (.istore 6, 2) ∧ decode cX11_leaseOf 55 = .ok (.iload 6, 2) ∧ decode cX11_leaseOf 57 = .ok (.iload 4, 2) := by decide +kernel
theorem e_X11_leaseOf_3 : decode cX11_leaseOf 59 = .ok (.if_icmp .ge 50, 3) ∧ decode cX11_leaseOf 62 = .ok (.aload_n 0, 1) ∧ decode cX11_leaseOf 63 = .ok (.getfield 47, 3) ∧ decode cX11_leaseOf 66 = .ok (.aload_n 0, 1) ∧ decode cX11_leaseOf 67 = .ok (.getfield 64, 3) ∧ decode cX11_leaseOf 70 = .ok (.invokevirtual 371, 3) ∧ decode cX11_leaseOf 73 = .ok (.pop, 1) ∧ decode cX11_leaseOf 74 = .ok (.aload_n 0, 1) ∧ decode cX11_leaseOf 75 = .ok (.getfield 64, 3) ∧ decode cX11_leaseOf 78 = .ok (.iload_n 1, 1) := by decide +kernel
theorem e_X11_leaseOf_4 : decode cX11_leaseOf 79 = .ok (.iload_n 2, 1) ∧ decode cX11_leaseOf 80 = .ok (.invokevirtual 325, 3) ∧ decode cX11_leaseOf 83 = .ok (.iload_n 3, 1) ∧ decode cX11_leaseOf 84 = .ok (.if_icmp .ne 6, 3) ∧ decode cX11_leaseOf 87 = .ok (.iinc 5 1, 3) ∧ decode cX11_leaseOf 90 = .ok (.aload_n 0, 1) ∧ decode cX11_leaseOf 91 = .ok (.getfield 47, 3) ∧ decode cX11_leaseOf 94 = .ok (.dup, 1) ∧ decode cX11_leaseOf 95 = .ok (.getfield 212, 3) ∧ decode cX11_leaseOf 98 = .ok (.iconst 1, 1) := by decide +kernel
theorem e_X11_leaseOf_5 : decode cX11_leaseOf 99 = .ok (.iadd, 1) ∧ decode cX11_leaseOf 100 = .ok (.putfield 212, 3) ∧ decode cX11_leaseOf 103 = .ok (.iinc 6 1, 3) ∧ decode cX11_leaseOf 106 = .ok (.goto (-51), 3) ∧ decode cX11_leaseOf 109 = .ok (.aload_n 0, 1) ∧ decode cX11_leaseOf 110 = .ok (.iload 5, 2) ∧ decode cX11_leaseOf 112 = .ok (.invokevirtual 176, 3) ∧ decode cX11_leaseOf 115 = .ok (.ireturn, 1) := by decide +kernel
abbrev E_X11_leaseOf_55 (G : Kg) (l1 l2 l3 l4 l5 l6 : Int) (σ : Kmem) (Q : Int → Kmem → Prop) : Prop := Ex G WX M_X11_leaseOf 4 0 0 55 [(0, vA G 0), (1, vI l1), (2, vI l2), (3, vI l3), (4, vI l4), (5, vI l5), (6, vI l6)] [] σ Q
theorem S_X11_leaseOf {G : Kg} {σ : Kmem} {Q : Int → Kmem → Prop} {l1 l2 l3 l4 : Int} {v : Int → Int}  (h : (wf v ∧ kco σ 5 v ∧ rI (l1) ∧ rI (l2)) ∧ ((¬ (sFld v (l1) (l2)) → Q (-1) (kup σ 0 0 1)) ∧ ((sFld v (l1) (l2)) → (wf v ∧ kco σ 5 v ∧ rI (l3)) ∧ ((¬ (sKt v (l3)) → Q (-1) (kup σ 0 0 1)) ∧ ((sKt v (l3)) → (rI (l4)) ∧ ((((0 : Int) ≤ l4 ∧ (l4 : Int) ≤ 99) → Run G WX M_X0_copy 1 0 0 [vA G 31, vA G 5] σ (fun r14 s15 => E_X11_leaseOf_55 G l1 l2 l3 l4 0 0 s15 Q)) ∧ (¬ ((0 : Int) ≤ l4 ∧ (l4 : Int) ≤ 99) → Q (-1) (kup σ 0 0 1)))))))) : Run G WX M_X11_leaseOf 4 0 0 [vA G 0, vI l1, vI l2, vI l3, vI l4] σ Q := by
  refine Run.of (by decide +kernel) (by show (5 : Nat) ≤ 7; decide) ?_
  show Ex G WX M_X11_leaseOf 4 0 0 0 [(0, vA G 0), (1, vI l1), (2, vI l2), (3, vI l3), (4, vI l4)] [] σ Q
  refine R_aload_n e_X11_leaseOf_0.1 0 rfl ?_
  refine R_getA 11 7 5 e_X11_leaseOf_0.2.1 f_X11_43 kx_0 (fun _ _ => rfl) rx_0_7 (by decide) ?_
  refine R_iload_n e_X11_leaseOf_0.2.2.1 1 rfl ?_
  refine R_iload_n e_X11_leaseOf_0.2.2.2.1 2 rfl ?_
  obtain ⟨q3, h⟩ := h
  refine R_callV (mc := 0) (ms := 0) (mc' := 0) (ms' := 0) (M' := M_X0_hasField) (d' := 1) (as := [vI l1, vI l2]) (st := []) 0 2 e_X11_leaseOf_0.2.2.2.2.1 (kCVof m_X0_hasField l_X11_321) rfl (by decide) (kC_self isC_5) (by decide) (by decide) rfl rfl (by show (0 : Nat) ≤ 8; decide) ?_
  refine Run.mono (P_X0_hasField isC_5 q3) (fun rr ss e => ?_)
  obtain ⟨e1, e2⟩ := e
  refine R_eqs (st2 := [vI (kb (sFld v (l1) (l2)))]) (σ2 := σ) (by rw [e1]; rfl) e2 ?_
  refine R_if_eq 32 e_X11_leaseOf_0.2.2.2.2.2.1 (by decide) (kb_r _) (fun q => ?_) (fun q => ?_)
  · replace h := h.1 (kb_f q)
    refine R_aload_n e_X11_leaseOf_1.2.2.2.2.2.1 0 rfl ?_
    refine R_iconst e_X11_leaseOf_1.2.2.2.2.2.2.1 ?_
    refine R_callV (mc := 0) (ms := 0) (mc' := 0) (ms' := 0) (M' := M_X11_deny) (d' := 0) (as := [vI 1]) (st := []) 11 1 e_X11_leaseOf_1.2.2.2.2.2.2.2.1 (kCVof m_X11_deny l_X11_132) rfl (by decide) kx_0 (by decide) (by decide) rfl rfl (by show (0 : Nat) ≤ 8; decide) ?_
    refine S_X11_deny ?_
    refine R_eqs (st2 := [vI (-1)]) (σ2 := (kup σ 0 0 1)) rfl rfl ?_
    exact R_ireturn e_X11_leaseOf_1.2.2.2.2.2.2.2.2.1 rfl h
  · replace h := h.2 (kb_t q)
    refine R_aload_n e_X11_leaseOf_0.2.2.2.2.2.2.1 0 rfl ?_
    refine R_getA 11 7 5 e_X11_leaseOf_0.2.2.2.2.2.2.2.1 f_X11_43 kx_0 (fun _ _ => rfl) rx_0_7 (by decide) ?_
    refine R_iload_n e_X11_leaseOf_0.2.2.2.2.2.2.2.2.1 3 rfl ?_
    obtain ⟨q8, h⟩ := h
    refine R_callV (mc := 0) (ms := 0) (mc' := 0) (ms' := 0) (M' := M_X0_hasKite) (d' := 0) (as := [vI l3]) (st := []) 0 1 e_X11_leaseOf_0.2.2.2.2.2.2.2.2.2 (kCVof m_X0_hasKite l_X11_238) rfl (by decide) (kC_self isC_5) (by decide) (by decide) rfl rfl (by show (0 : Nat) ≤ 8; decide) ?_
    refine Run.mono (P_X0_hasKite isC_5 q8) (fun rr ss e => ?_)
    obtain ⟨e1, e2⟩ := e
    refine R_eqs (st2 := [vI (kb (sKt v (l3)))]) (σ2 := σ) (by rw [e1]; rfl) e2 ?_
    refine R_if_eq 32 e_X11_leaseOf_1.1 (by decide) (kb_r _) (fun q => ?_) (fun q => ?_)
    · replace h := h.1 (kb_f q)
      refine R_aload_n e_X11_leaseOf_1.2.2.2.2.2.1 0 rfl ?_
      refine R_iconst e_X11_leaseOf_1.2.2.2.2.2.2.1 ?_
      refine R_callV (mc := 0) (ms := 0) (mc' := 0) (ms' := 0) (M' := M_X11_deny) (d' := 0) (as := [vI 1]) (st := []) 11 1 e_X11_leaseOf_1.2.2.2.2.2.2.2.1 (kCVof m_X11_deny l_X11_132) rfl (by decide) kx_0 (by decide) (by decide) rfl rfl (by show (0 : Nat) ≤ 8; decide) ?_
      refine S_X11_deny ?_
      refine R_eqs (st2 := [vI (-1)]) (σ2 := (kup σ 0 0 1)) rfl rfl ?_
      exact R_ireturn e_X11_leaseOf_1.2.2.2.2.2.2.2.2.1 rfl h
    · replace h := h.2 (kb_t q)
      refine R_aload_n e_X11_leaseOf_1.2.1 0 rfl ?_
      refine R_iload e_X11_leaseOf_1.2.2.1 4 rfl ?_
      obtain ⟨q13, h⟩ := h
      refine R_callV (mc := 0) (ms := 0) (mc' := 0) (ms' := 0) (M' := M_X11_isAhead) (d' := 0) (as := [vI l4]) (st := []) 11 1 e_X11_leaseOf_1.2.2.2.1 (kCVof m_X11_isAhead l_X11_378) rfl (by decide) kx_0 (by decide) (by decide) rfl rfl (by show (0 : Nat) ≤ 8; decide) ?_
      refine Run.mono (P_X11_isAhead q13) (fun rr ss e => ?_)
      obtain ⟨e1, e2⟩ := e
      refine R_eqs (st2 := [vI (kb ((0 : Int) ≤ l4 ∧ (l4 : Int) ≤ 99))]) (σ2 := σ) (by rw [e1]; rfl) e2 ?_
      refine R_if_ne 38 e_X11_leaseOf_1.2.2.2.2.1 (by decide) (kb_r _) (fun q => ?_) (fun q => ?_)
      · replace h := h.1 (kb_t q)
        refine R_aload_n e_X11_leaseOf_1.2.2.2.2.2.2.2.2.2 0 rfl ?_
        refine R_getA 11 8 31 e_X11_leaseOf_2.1 f_X11_47 kx_0 (fun _ _ => rfl) rx_0_8 (by decide) ?_
        refine R_aload_n e_X11_leaseOf_2.2.1 0 rfl ?_
        refine R_getA 11 7 5 e_X11_leaseOf_2.2.2.1 f_X11_43 kx_0 (fun _ _ => rfl) rx_0_7 (by decide) ?_
        refine R_callV (mc := 0) (ms := 0) (mc' := 0) (ms' := 0) (M' := M_X0_copy) (d' := 1) (as := [vA G 5]) (st := []) 0 1 e_X11_leaseOf_2.2.2.2.1 (kCVof m_X0_copy l_X11_167) rfl (by decide) (kC_self isC_31) (by decide) (by decide) rfl rfl (by show (0 : Nat) ≤ 8; decide) ?_
        refine Run.mono h (fun r14 s15 h => ?_)
        refine R_eqs (st2 := []) rfl rfl ?_
        refine R_iconst e_X11_leaseOf_2.2.2.2.2.1 ?_
        refine R_istore (ls2 := [(5, vI 0), (0, vA G 0), (1, vI l1), (2, vI l2), (3, vI l3), (4, vI l4)]) e_X11_leaseOf_2.2.2.2.2.2.1 (by decide) rfl ?_
        refine R_iconst e_X11_leaseOf_2.2.2.2.2.2.2.1 ?_
        refine R_istore (ls2 := [(6, vI 0), (5, vI 0), (0, vA G 0), (1, vI l1), (2, vI l2), (3, vI l3), (4, vI l4)]) e_X11_leaseOf_2.2.2.2.2.2.2.2.1 (by decide) rfl ?_
        refine R_ls (ls2 := [(0, vA G 0), (1, vI l1), (2, vI l2), (3, vI l3), (4, vI l4), (5, vI 0), (6, vI 0)]) [2, 3, 4, 5, 6, 1, 0] rfl ?_
        exact h
      · replace h := h.2 (kb_f q)
        refine R_aload_n e_X11_leaseOf_1.2.2.2.2.2.1 0 rfl ?_
        refine R_iconst e_X11_leaseOf_1.2.2.2.2.2.2.1 ?_
        refine R_callV (mc := 0) (ms := 0) (mc' := 0) (ms' := 0) (M' := M_X11_deny) (d' := 0) (as := [vI 1]) (st := []) 11 1 e_X11_leaseOf_1.2.2.2.2.2.2.2.1 (kCVof m_X11_deny l_X11_132) rfl (by decide) kx_0 (by decide) (by decide) rfl rfl (by show (0 : Nat) ≤ 8; decide) ?_
        refine S_X11_deny ?_
        refine R_eqs (st2 := [vI (-1)]) (σ2 := (kup σ 0 0 1)) rfl rfl ?_
        exact R_ireturn e_X11_leaseOf_1.2.2.2.2.2.2.2.2.1 rfl h
theorem S_X11_leaseOf_55 {G : Kg} {σ : Kmem} {Q : Int → Kmem → Prop} {l1 l2 l3 l4 l5 l6 : Int}  (h : (rI l6) ∧ (rI l4) ∧ ((l4 ≤ l6 → Q l5 (kup σ 0 0 0)) ∧ (l6 < l4 → Run G WX M_X0_loseCrossed 3 0 0 [vA G 31, vA G 58] σ (fun r22 s23 => (0 ≤ (l2 * 9) + l1 ∧ (l2 * 9) + l1 < 63) ∧ (rI (s23 63 ((l2 * 9) + l1))) ∧ (rI l3) ∧ ((s23 63 ((l2 * 9) + l1) ≠ l3 → E_X11_leaseOf_55 G l1 l2 l3 l4 l5 (l6 + 1) (kup s23 31 4 ((s23 31 4) + 1)) Q) ∧ (s23 63 ((l2 * 9) + l1) = l3 → E_X11_leaseOf_55 G l1 l2 l3 l4 (l5 + 1) (l6 + 1) (kup s23 31 4 ((s23 31 4) + 1)) Q)))))) : E_X11_leaseOf_55 G l1 l2 l3 l4 l5 l6 σ Q := by
  refine R_iload e_X11_leaseOf_2.2.2.2.2.2.2.2.2.1 6 rfl ?_
  refine R_iload e_X11_leaseOf_2.2.2.2.2.2.2.2.2.2 4 rfl ?_
  obtain ⟨q18, h⟩ := h
  obtain ⟨q19, h⟩ := h
  refine R_icmp_ge 109 e_X11_leaseOf_3.1 (by decide) q18 q19 (fun q => ?_) (fun q => ?_)
  · replace h := h.1 q
    refine R_aload_n e_X11_leaseOf_5.2.2.2.2.1 0 rfl ?_
    refine R_iload e_X11_leaseOf_5.2.2.2.2.2.1 5 rfl ?_
    refine R_callV (mc := 0) (ms := 0) (mc' := 0) (ms' := 0) (M' := M_X11_give) (d' := 0) (as := [vI l5]) (st := []) 11 1 e_X11_leaseOf_5.2.2.2.2.2.2.1 (kCVof m_X11_give l_X11_176) rfl (by decide) kx_0 (by decide) (by decide) rfl rfl (by show (0 : Nat) ≤ 8; decide) ?_
    refine S_X11_give ?_
    refine R_eqs (st2 := [vI l5]) (σ2 := (kup σ 0 0 0)) rfl rfl ?_
    exact R_ireturn e_X11_leaseOf_5.2.2.2.2.2.2.2 rfl h
  · replace h := h.2 q
    refine R_aload_n e_X11_leaseOf_3.2.1 0 rfl ?_
    refine R_getA 11 8 31 e_X11_leaseOf_3.2.2.1 f_X11_47 kx_0 (fun _ _ => rfl) rx_0_8 (by decide) ?_
    refine R_aload_n e_X11_leaseOf_3.2.2.2.1 0 rfl ?_
    refine R_getA 11 10 58 e_X11_leaseOf_3.2.2.2.2.1 f_X11_64 kx_0 (fun _ _ => rfl) rx_0_10 (by decide) ?_
    refine R_callV (mc := 0) (ms := 0) (mc' := 0) (ms' := 0) (M' := M_X0_loseCrossed) (d' := 3) (as := [vA G 58]) (st := []) 0 1 e_X11_leaseOf_3.2.2.2.2.2.1 (kCVof m_X0_loseCrossed l_X11_371) rfl (by decide) (kC_self isC_31) (by decide) (by decide) rfl rfl (by show (0 : Nat) ≤ 8; decide) ?_
    refine Run.mono h (fun r22 s23 h => ?_)
    refine R_eqs (st2 := [vI r22]) rfl rfl ?_
    refine R_pop e_X11_leaseOf_3.2.2.2.2.2.2.1 rfl ?_
    refine R_aload_n e_X11_leaseOf_3.2.2.2.2.2.2.2.1 0 rfl ?_
    refine R_getA 11 10 58 e_X11_leaseOf_3.2.2.2.2.2.2.2.2.1 f_X11_64 kx_0 (fun _ _ => rfl) rx_0_10 (by decide) ?_
    refine R_iload_n e_X11_leaseOf_3.2.2.2.2.2.2.2.2.2 1 rfl ?_
    refine R_iload_n e_X11_leaseOf_4.1 2 rfl ?_
    refine R_callV (mc := 0) (ms := 0) (mc' := 0) (ms' := 0) (M' := M_X8_ownerOf) (d' := 0) (as := [vI l1, vI l2]) (st := []) 8 2 e_X11_leaseOf_4.2.1 (kCVof m_X8_ownerOf l_X11_325) rfl (by decide) kx_58 (by decide) (by decide) rfl rfl (by show (0 : Nat) ≤ 8; decide) ?_
    obtain ⟨q26, h⟩ := h
    refine S_X8_ownerOf ⟨q26, ?_⟩
    refine R_eqs (st2 := [vI (s23 63 ((l2 * 9) + l1))]) (σ2 := s23) rfl rfl ?_
    refine R_iload_n e_X11_leaseOf_4.2.2.1 3 rfl ?_
    obtain ⟨q27, h⟩ := h
    obtain ⟨q28, h⟩ := h
    refine R_icmp_ne 90 e_X11_leaseOf_4.2.2.2.1 (by decide) q27 q28 (fun q => ?_) (fun q => ?_)
    · replace h := h.1 q
      refine R_aload_n e_X11_leaseOf_4.2.2.2.2.2.1 0 rfl ?_
      refine R_getA 11 8 31 e_X11_leaseOf_4.2.2.2.2.2.2.1 f_X11_47 kx_0 (fun _ _ => rfl) rx_0_8 (by decide) ?_
      refine R_dup e_X11_leaseOf_4.2.2.2.2.2.2.2.1 rfl ?_
      refine R_getI 0 4 4 e_X11_leaseOf_4.2.2.2.2.2.2.2.2.1 f_X11_212 (kC_self isC_31) (fun _ _ => rfl) rfl ?_
      refine R_iconst e_X11_leaseOf_4.2.2.2.2.2.2.2.2.2 ?_
      refine R_iadd e_X11_leaseOf_5.1 ?_
      refine R_putI 0 4 4 WX_ok e_X11_leaseOf_5.2.1 f_X11_212 (kC_self isC_31) rfl rfl rfl ?_
      refine R_iinc (ls2 := [(6, vI (l6 + 1)), (0, vA G 0), (1, vI l1), (2, vI l2), (3, vI l3), (4, vI l4), (5, vI l5)]) e_X11_leaseOf_5.2.2.1 6 rfl (by decide) rfl ?_
      refine R_goto 55 e_X11_leaseOf_5.2.2.2.1 (by decide) ?_
      refine R_ls (ls2 := [(0, vA G 0), (1, vI l1), (2, vI l2), (3, vI l3), (4, vI l4), (5, vI l5), (6, vI (l6 + 1))]) [1, 2, 3, 4, 5, 6, 0] rfl ?_
      exact h
    · replace h := h.2 q
      refine R_iinc (ls2 := [(5, vI (l5 + 1)), (0, vA G 0), (1, vI l1), (2, vI l2), (3, vI l3), (4, vI l4), (6, vI l6)]) e_X11_leaseOf_4.2.2.2.2.1 5 rfl (by decide) rfl ?_
      refine R_aload_n e_X11_leaseOf_4.2.2.2.2.2.1 1 rfl ?_
      refine R_getA 11 8 31 e_X11_leaseOf_4.2.2.2.2.2.2.1 f_X11_47 kx_0 (fun _ _ => rfl) rx_0_8 (by decide) ?_
      refine R_dup e_X11_leaseOf_4.2.2.2.2.2.2.2.1 rfl ?_
      refine R_getI 0 4 4 e_X11_leaseOf_4.2.2.2.2.2.2.2.2.1 f_X11_212 (kC_self isC_31) (fun _ _ => rfl) rfl ?_
      refine R_iconst e_X11_leaseOf_4.2.2.2.2.2.2.2.2.2 ?_
      refine R_iadd e_X11_leaseOf_5.1 ?_
      refine R_putI 0 4 4 WX_ok e_X11_leaseOf_5.2.1 f_X11_212 (kC_self isC_31) rfl rfl rfl ?_
      refine R_iinc (ls2 := [(6, vI (l6 + 1)), (5, vI (l5 + 1)), (0, vA G 0), (1, vI l1), (2, vI l2), (3, vI l3), (4, vI l4)]) e_X11_leaseOf_5.2.2.1 6 rfl (by decide) rfl ?_
      refine R_goto 55 e_X11_leaseOf_5.2.2.2.1 (by decide) ?_
      refine R_ls (ls2 := [(0, vA G 0), (1, vI l1), (2, vI l2), (3, vI l3), (4, vI l4), (5, vI (l5 + 1)), (6, vI (l6 + 1))]) [2, 3, 4, 5, 6, 1, 0] rfl ?_
      exact h
/-! KiteLand.plant(I)I -/
theorem e_X11_plant_0 : decode cX11_plant 0 = .ok (.iload_n 1, 1) ∧ decode cX11_plant 1 = .ok (.iconst 1, 1) ∧ decode cX11_plant 2 = .ok (.if_icmp .lt 9, 3) ∧ decode cX11_plant 5 = .ok (.iload_n 1, 1) ∧ decode cX11_plant 6 = .ok (.bipush 99, 2) ∧ decode cX11_plant 8 = .ok (.if_icmp .le 9, 3) ∧ decode cX11_plant 11 = .ok (.aload_n 0, 1) ∧ decode cX11_plant 12 = .ok (.iconst 1, 1) ∧ decode cX11_plant 13 = .ok (.invokevirtual 132, 3) ∧ decode cX11_plant 16 = .ok (.ireturn, 1) := by decide +kernel
theorem e_X11_plant_1 : decode cX11_plant 17 = .ok (.aload_n 0, 1) ∧ decode cX11_plant 18 = .ok (.getfield 43, 3) ∧ decode cX11_plant 21 = .ok (.invokevirtual 346, 3) ∧ decode cX11_plant 24 = .ok (.ifCond .ne 10, 3) ∧ decode cX11_plant 27 = .ok (.aload_n 0, 1) ∧ decode cX11_plant 28 = .ok (.bipush 6, 2) ∧ decode cX11_plant 30 = .ok (.invokevirtual 132, 3) ∧ decode cX11_plant 33 = .ok (.ireturn, 1) ∧ decode cX11_plant 34 = .ok (.aload_n 0, 1) ∧ decode cX11_plant 35 = .ok (.getfield 47, 3) := by decide +kernel
theorem e_X11_plant_2 : decode cX11_plant 38 = .ok (.aload_n 0, 1) ∧ decode cX11_plant 39 = .ok (.getfield 43, 3) ∧ decode cX11_plant 42 = .ok (.invokevirtual 167, 3) ∧ decode cX11_plant 45 = .ok (.aload_n 0, 1) ∧ decode cX11_plant 46 = .ok (.getfield 93, 3) ∧ decode cX11_plant 49 = .ok (.iload_n 1, 1) ∧ decode cX11_plant 50 = .ok (.invokevirtual 381, 3) ∧ decode cX11_plant 53 = .ok (.aload_n 0, 1) ∧ decode cX11_plant 54 = .ok (.aload_n 0, 1) ∧ decode cX11_plant 55 = .ok (.getfield 93, 3) := by decide +kernel
theorem e_X11_plant_3 : decode cX11_plant 58 = .ok (.getfield 384, 3) ∧ decode cX11_plant 61 = .ok (.invokevirtual 176, 3) ∧ decode cX11_plant 64 = .ok (.ireturn, 1) := by decide +kernel
theorem S_X11_plant {G : Kg} {σ : Kmem} {Q : Int → Kmem → Prop} {l1 : Int} {v : Int → Int}  (h : (rI l1) ∧ ((l1 < 1 → Q (-1) (kup σ 0 0 1)) ∧ (1 ≤ l1 → ((l1 ≤ 99 → (wf v ∧ kco σ 5 v) ∧ ((((0 : Int) < v 0) → Run G WX M_X0_copy 1 0 0 [vA G 31, vA G 5] σ (fun r7 s8 => Run G WX M_X5_seekPlanting 4 0 0 [vA G 82, vI l1] s8 (fun r9 s10 => Q (s10 82 2) (kup s10 0 0 0)))) ∧ (¬ ((0 : Int) < v 0) → Q (-1) (kup σ 0 0 6)))) ∧ (99 < l1 → Q (-1) (kup σ 0 0 1)))))) : Run G WX M_X11_plant 5 0 0 [vA G 0, vI l1] σ Q := by
  refine Run.of (by decide +kernel) (by show (2 : Nat) ≤ 2; decide) ?_
  show Ex G WX M_X11_plant 5 0 0 0 [(0, vA G 0), (1, vI l1)] [] σ Q
  refine R_iload_n e_X11_plant_0.1 1 rfl ?_
  refine R_iconst e_X11_plant_0.2.1 ?_
  obtain ⟨q1, h⟩ := h
  refine R_icmp_lt 11 e_X11_plant_0.2.2.1 (by decide) q1 (by decide) (fun q => ?_) (fun q => ?_)
  · replace h := h.1 q
    refine R_aload_n e_X11_plant_0.2.2.2.2.2.2.1 0 rfl ?_
    refine R_iconst e_X11_plant_0.2.2.2.2.2.2.2.1 ?_
    refine R_callV (mc := 0) (ms := 0) (mc' := 0) (ms' := 0) (M' := M_X11_deny) (d' := 0) (as := [vI 1]) (st := []) 11 1 e_X11_plant_0.2.2.2.2.2.2.2.2.1 (kCVof m_X11_deny l_X11_132) rfl (by decide) kx_0 (by decide) (by decide) rfl rfl (by show (0 : Nat) ≤ 8; decide) ?_
    refine S_X11_deny ?_
    refine R_eqs (st2 := [vI (-1)]) (σ2 := (kup σ 0 0 1)) rfl rfl ?_
    exact R_ireturn e_X11_plant_0.2.2.2.2.2.2.2.2.2 rfl h
  · replace h := h.2 q
    refine R_iload_n e_X11_plant_0.2.2.2.1 1 rfl ?_
    refine R_bipush e_X11_plant_0.2.2.2.2.1 (by decide) ?_
    refine R_icmp_le 17 e_X11_plant_0.2.2.2.2.2.1 (by decide) q1 (by decide) (fun q => ?_) (fun q => ?_)
    · replace h := h.1 q
      refine R_aload_n e_X11_plant_1.1 0 rfl ?_
      refine R_getA 11 7 5 e_X11_plant_1.2.1 f_X11_43 kx_0 (fun _ _ => rfl) rx_0_7 (by decide) ?_
      obtain ⟨q6, h⟩ := h
      refine R_callV (mc := 0) (ms := 0) (mc' := 0) (ms' := 0) (M' := M_X0_hasLand) (d' := 0) (as := []) (st := []) 0 0 e_X11_plant_1.2.2.1 (kCVof m_X0_hasLand l_X11_346) rfl (by decide) (kC_self isC_5) (by decide) (by decide) rfl rfl (by show (0 : Nat) ≤ 8; decide) ?_
      refine Run.mono (P_X0_hasLand isC_5 q6) (fun rr ss e => ?_)
      obtain ⟨e1, e2⟩ := e
      refine R_eqs (st2 := [vI (kb ((0 : Int) < v 0))]) (σ2 := σ) (by rw [e1]; rfl) e2 ?_
      refine R_if_ne 34 e_X11_plant_1.2.2.2.1 (by decide) (kb_r _) (fun q => ?_) (fun q => ?_)
      · replace h := h.1 (kb_t q)
        refine R_aload_n e_X11_plant_1.2.2.2.2.2.2.2.2.1 0 rfl ?_
        refine R_getA 11 8 31 e_X11_plant_1.2.2.2.2.2.2.2.2.2 f_X11_47 kx_0 (fun _ _ => rfl) rx_0_8 (by decide) ?_
        refine R_aload_n e_X11_plant_2.1 0 rfl ?_
        refine R_getA 11 7 5 e_X11_plant_2.2.1 f_X11_43 kx_0 (fun _ _ => rfl) rx_0_7 (by decide) ?_
        refine R_callV (mc := 0) (ms := 0) (mc' := 0) (ms' := 0) (M' := M_X0_copy) (d' := 1) (as := [vA G 5]) (st := []) 0 1 e_X11_plant_2.2.2.1 (kCVof m_X0_copy l_X11_167) rfl (by decide) (kC_self isC_31) (by decide) (by decide) rfl rfl (by show (0 : Nat) ≤ 8; decide) ?_
        refine Run.mono h (fun r7 s8 h => ?_)
        refine R_eqs (st2 := []) rfl rfl ?_
        refine R_aload_n e_X11_plant_2.2.2.2.1 0 rfl ?_
        refine R_getA 11 15 82 e_X11_plant_2.2.2.2.2.1 f_X11_93 kx_0 (fun _ _ => rfl) rx_0_15 (by decide) ?_
        refine R_iload_n e_X11_plant_2.2.2.2.2.2.1 1 rfl ?_
        refine R_callV (mc := 0) (ms := 0) (mc' := 0) (ms' := 0) (M' := M_X5_seekPlanting) (d' := 4) (as := [vI l1]) (st := []) 5 1 e_X11_plant_2.2.2.2.2.2.2.1 (kCVof m_X5_seekPlanting l_X11_381) rfl (by decide) kx_82 (by decide) (by decide) rfl rfl (by show (0 : Nat) ≤ 8; decide) ?_
        refine Run.mono h (fun r9 s10 h => ?_)
        refine R_eqs (st2 := []) rfl rfl ?_
        refine R_aload_n e_X11_plant_2.2.2.2.2.2.2.2.1 0 rfl ?_
        refine R_aload_n e_X11_plant_2.2.2.2.2.2.2.2.2.1 0 rfl ?_
        refine R_getA 11 15 82 e_X11_plant_2.2.2.2.2.2.2.2.2.2 f_X11_93 kx_0 (fun _ _ => rfl) rx_0_15 (by decide) ?_
        refine R_getI 5 2 2 e_X11_plant_3.1 f_X11_384 kx_82 (fun _ _ => rfl) rfl ?_
        refine R_callV (mc := 0) (ms := 0) (mc' := 0) (ms' := 0) (M' := M_X11_give) (d' := 0) (as := [vI (s10 82 2)]) (st := []) 11 1 e_X11_plant_3.2.1 (kCVof m_X11_give l_X11_176) rfl (by decide) kx_0 (by decide) (by decide) rfl rfl (by show (0 : Nat) ≤ 8; decide) ?_
        refine S_X11_give ?_
        refine R_eqs (st2 := [vI (s10 82 2)]) (σ2 := (kup s10 0 0 0)) rfl rfl ?_
        exact R_ireturn e_X11_plant_3.2.2 rfl h
      · replace h := h.2 (kb_f q)
        refine R_aload_n e_X11_plant_1.2.2.2.2.1 0 rfl ?_
        refine R_bipush e_X11_plant_1.2.2.2.2.2.1 (by decide) ?_
        refine R_callV (mc := 0) (ms := 0) (mc' := 0) (ms' := 0) (M' := M_X11_deny) (d' := 0) (as := [vI 6]) (st := []) 11 1 e_X11_plant_1.2.2.2.2.2.2.1 (kCVof m_X11_deny l_X11_132) rfl (by decide) kx_0 (by decide) (by decide) rfl rfl (by show (0 : Nat) ≤ 8; decide) ?_
        refine S_X11_deny ?_
        refine R_eqs (st2 := [vI (-1)]) (σ2 := (kup σ 0 0 6)) rfl rfl ?_
        exact R_ireturn e_X11_plant_1.2.2.2.2.2.2.2.1 rfl h
    · replace h := h.2 q
      refine R_aload_n e_X11_plant_0.2.2.2.2.2.2.1 0 rfl ?_
      refine R_iconst e_X11_plant_0.2.2.2.2.2.2.2.1 ?_
      refine R_callV (mc := 0) (ms := 0) (mc' := 0) (ms' := 0) (M' := M_X11_deny) (d' := 0) (as := [vI 1]) (st := []) 11 1 e_X11_plant_0.2.2.2.2.2.2.2.2.1 (kCVof m_X11_deny l_X11_132) rfl (by decide) kx_0 (by decide) (by decide) rfl rfl (by show (0 : Nat) ≤ 8; decide) ?_
      refine S_X11_deny ?_
      refine R_eqs (st2 := [vI (-1)]) (σ2 := (kup σ 0 0 1)) rfl rfl ?_
      exact R_ireturn e_X11_plant_0.2.2.2.2.2.2.2.2.2 rfl h
/-! KiteLand.planted(I)I -/
theorem e_X11_planted_0 : decode cX11_planted 0 = .ok (.iload_n 1, 1) ∧ decode cX11_planted 1 = .ok (.iconst 1, 1) ∧ decode cX11_planted 2 = .ok (.if_icmp .lt 9, 3) ∧ decode cX11_planted 5 = .ok (.iload_n 1, 1) ∧ decode cX11_planted 6 = .ok (.bipush 99, 2) ∧ decode cX11_planted 8 = .ok (.if_icmp .le 9, 3) ∧ decode cX11_planted 11 = .ok (.aload_n 0, 1) ∧ decode cX11_planted 12 = .ok (.iconst 1, 1) ∧ decode cX11_planted 13 = .ok (.invokevirtual 132, 3) ∧ decode cX11_planted 16 = .ok (.ireturn, 1) := by decide +kernel
theorem e_X11_planted_1 : decode cX11_planted 17 = .ok (.aload_n 0, 1) ∧ decode cX11_planted 18 = .ok (.getfield 43, 3) ∧ decode cX11_planted 21 = .ok (.invokevirtual 346, 3) ∧ decode cX11_planted 24 = .ok (.ifCond .ne 10, 3) ∧ decode cX11_planted 27 = .ok (.aload_n 0, 1) ∧ decode cX11_planted 28 = .ok (.bipush 6, 2) ∧ decode cX11_planted 30 = .ok (.invokevirtual 132, 3) ∧ decode cX11_planted 33 = .ok (.ireturn, 1) ∧ decode cX11_planted 34 = .ok (.aload_n 0, 1) ∧ decode cX11_planted 35 = .ok (.getfield 47, 3) := by decide +kernel
theorem e_X11_planted_2 : decode cX11_planted 38 = .ok (.aload_n 0, 1) ∧ decode cX11_planted 39 = .ok (.getfield 43, 3) ∧ decode cX11_planted 42 = .ok (.invokevirtual 167, 3) ∧ decode cX11_planted 45 = .ok (.aload_n 0, 1) ∧ decode cX11_planted 46 = .ok (.getfield 93, 3) ∧ decode cX11_planted 49 = .ok (.iload_n 1, 1) ∧ decode cX11_planted 50 = .ok (.invokevirtual 381, 3) ∧ decode cX11_planted 53 = .ok (.aload_n 0, 1) ∧ decode cX11_planted 54 = .ok (.aload_n 0, 1) ∧ decode cX11_planted 55 = .ok (.getfield 93, 3) := by decide +kernel
theorem e_X11_planted_3 : decode cX11_planted 58 = .ok (.getfield 387, 3) ∧ decode cX11_planted 61 = .ok (.invokevirtual 176, 3) ∧ decode cX11_planted 64 = .ok (.ireturn, 1) := by decide +kernel
theorem S_X11_planted {G : Kg} {σ : Kmem} {Q : Int → Kmem → Prop} {l1 : Int} {v : Int → Int}  (h : (rI l1) ∧ ((l1 < 1 → Q (-1) (kup σ 0 0 1)) ∧ (1 ≤ l1 → ((l1 ≤ 99 → (wf v ∧ kco σ 5 v) ∧ ((((0 : Int) < v 0) → Run G WX M_X0_copy 1 0 0 [vA G 31, vA G 5] σ (fun r7 s8 => Run G WX M_X5_seekPlanting 4 0 0 [vA G 82, vI l1] s8 (fun r9 s10 => Q (s10 82 3) (kup s10 0 0 0)))) ∧ (¬ ((0 : Int) < v 0) → Q (-1) (kup σ 0 0 6)))) ∧ (99 < l1 → Q (-1) (kup σ 0 0 1)))))) : Run G WX M_X11_planted 5 0 0 [vA G 0, vI l1] σ Q := by
  refine Run.of (by decide +kernel) (by show (2 : Nat) ≤ 2; decide) ?_
  show Ex G WX M_X11_planted 5 0 0 0 [(0, vA G 0), (1, vI l1)] [] σ Q
  refine R_iload_n e_X11_planted_0.1 1 rfl ?_
  refine R_iconst e_X11_planted_0.2.1 ?_
  obtain ⟨q1, h⟩ := h
  refine R_icmp_lt 11 e_X11_planted_0.2.2.1 (by decide) q1 (by decide) (fun q => ?_) (fun q => ?_)
  · replace h := h.1 q
    refine R_aload_n e_X11_planted_0.2.2.2.2.2.2.1 0 rfl ?_
    refine R_iconst e_X11_planted_0.2.2.2.2.2.2.2.1 ?_
    refine R_callV (mc := 0) (ms := 0) (mc' := 0) (ms' := 0) (M' := M_X11_deny) (d' := 0) (as := [vI 1]) (st := []) 11 1 e_X11_planted_0.2.2.2.2.2.2.2.2.1 (kCVof m_X11_deny l_X11_132) rfl (by decide) kx_0 (by decide) (by decide) rfl rfl (by show (0 : Nat) ≤ 8; decide) ?_
    refine S_X11_deny ?_
    refine R_eqs (st2 := [vI (-1)]) (σ2 := (kup σ 0 0 1)) rfl rfl ?_
    exact R_ireturn e_X11_planted_0.2.2.2.2.2.2.2.2.2 rfl h
  · replace h := h.2 q
    refine R_iload_n e_X11_planted_0.2.2.2.1 1 rfl ?_
    refine R_bipush e_X11_planted_0.2.2.2.2.1 (by decide) ?_
    refine R_icmp_le 17 e_X11_planted_0.2.2.2.2.2.1 (by decide) q1 (by decide) (fun q => ?_) (fun q => ?_)
    · replace h := h.1 q
      refine R_aload_n e_X11_planted_1.1 0 rfl ?_
      refine R_getA 11 7 5 e_X11_planted_1.2.1 f_X11_43 kx_0 (fun _ _ => rfl) rx_0_7 (by decide) ?_
      obtain ⟨q6, h⟩ := h
      refine R_callV (mc := 0) (ms := 0) (mc' := 0) (ms' := 0) (M' := M_X0_hasLand) (d' := 0) (as := []) (st := []) 0 0 e_X11_planted_1.2.2.1 (kCVof m_X0_hasLand l_X11_346) rfl (by decide) (kC_self isC_5) (by decide) (by decide) rfl rfl (by show (0 : Nat) ≤ 8; decide) ?_
      refine Run.mono (P_X0_hasLand isC_5 q6) (fun rr ss e => ?_)
      obtain ⟨e1, e2⟩ := e
      refine R_eqs (st2 := [vI (kb ((0 : Int) < v 0))]) (σ2 := σ) (by rw [e1]; rfl) e2 ?_
      refine R_if_ne 34 e_X11_planted_1.2.2.2.1 (by decide) (kb_r _) (fun q => ?_) (fun q => ?_)
      · replace h := h.1 (kb_t q)
        refine R_aload_n e_X11_planted_1.2.2.2.2.2.2.2.2.1 0 rfl ?_
        refine R_getA 11 8 31 e_X11_planted_1.2.2.2.2.2.2.2.2.2 f_X11_47 kx_0 (fun _ _ => rfl) rx_0_8 (by decide) ?_
        refine R_aload_n e_X11_planted_2.1 0 rfl ?_
        refine R_getA 11 7 5 e_X11_planted_2.2.1 f_X11_43 kx_0 (fun _ _ => rfl) rx_0_7 (by decide) ?_
        refine R_callV (mc := 0) (ms := 0) (mc' := 0) (ms' := 0) (M' := M_X0_copy) (d' := 1) (as := [vA G 5]) (st := []) 0 1 e_X11_planted_2.2.2.1 (kCVof m_X0_copy l_X11_167) rfl (by decide) (kC_self isC_31) (by decide) (by decide) rfl rfl (by show (0 : Nat) ≤ 8; decide) ?_
        refine Run.mono h (fun r7 s8 h => ?_)
        refine R_eqs (st2 := []) rfl rfl ?_
        refine R_aload_n e_X11_planted_2.2.2.2.1 0 rfl ?_
        refine R_getA 11 15 82 e_X11_planted_2.2.2.2.2.1 f_X11_93 kx_0 (fun _ _ => rfl) rx_0_15 (by decide) ?_
        refine R_iload_n e_X11_planted_2.2.2.2.2.2.1 1 rfl ?_
        refine R_callV (mc := 0) (ms := 0) (mc' := 0) (ms' := 0) (M' := M_X5_seekPlanting) (d' := 4) (as := [vI l1]) (st := []) 5 1 e_X11_planted_2.2.2.2.2.2.2.1 (kCVof m_X5_seekPlanting l_X11_381) rfl (by decide) kx_82 (by decide) (by decide) rfl rfl (by show (0 : Nat) ≤ 8; decide) ?_
        refine Run.mono h (fun r9 s10 h => ?_)
        refine R_eqs (st2 := []) rfl rfl ?_
        refine R_aload_n e_X11_planted_2.2.2.2.2.2.2.2.1 0 rfl ?_
        refine R_aload_n e_X11_planted_2.2.2.2.2.2.2.2.2.1 0 rfl ?_
        refine R_getA 11 15 82 e_X11_planted_2.2.2.2.2.2.2.2.2.2 f_X11_93 kx_0 (fun _ _ => rfl) rx_0_15 (by decide) ?_
        refine R_getI 5 3 3 e_X11_planted_3.1 f_X11_387 kx_82 (fun _ _ => rfl) rfl ?_
        refine R_callV (mc := 0) (ms := 0) (mc' := 0) (ms' := 0) (M' := M_X11_give) (d' := 0) (as := [vI (s10 82 3)]) (st := []) 11 1 e_X11_planted_3.2.1 (kCVof m_X11_give l_X11_176) rfl (by decide) kx_0 (by decide) (by decide) rfl rfl (by show (0 : Nat) ≤ 8; decide) ?_
        refine S_X11_give ?_
        refine R_eqs (st2 := [vI (s10 82 3)]) (σ2 := (kup s10 0 0 0)) rfl rfl ?_
        exact R_ireturn e_X11_planted_3.2.2 rfl h
      · replace h := h.2 (kb_f q)
        refine R_aload_n e_X11_planted_1.2.2.2.2.1 0 rfl ?_
        refine R_bipush e_X11_planted_1.2.2.2.2.2.1 (by decide) ?_
        refine R_callV (mc := 0) (ms := 0) (mc' := 0) (ms' := 0) (M' := M_X11_deny) (d' := 0) (as := [vI 6]) (st := []) 11 1 e_X11_planted_1.2.2.2.2.2.2.1 (kCVof m_X11_deny l_X11_132) rfl (by decide) kx_0 (by decide) (by decide) rfl rfl (by show (0 : Nat) ≤ 8; decide) ?_
        refine S_X11_deny ?_
        refine R_eqs (st2 := [vI (-1)]) (σ2 := (kup σ 0 0 6)) rfl rfl ?_
        exact R_ireturn e_X11_planted_1.2.2.2.2.2.2.2.1 rfl h
    · replace h := h.2 q
      refine R_aload_n e_X11_planted_0.2.2.2.2.2.2.1 0 rfl ?_
      refine R_iconst e_X11_planted_0.2.2.2.2.2.2.2.1 ?_
      refine R_callV (mc := 0) (ms := 0) (mc' := 0) (ms' := 0) (M' := M_X11_deny) (d' := 0) (as := [vI 1]) (st := []) 11 1 e_X11_planted_0.2.2.2.2.2.2.2.2.1 (kCVof m_X11_deny l_X11_132) rfl (by decide) kx_0 (by decide) (by decide) rfl rfl (by show (0 : Nat) ≤ 8; decide) ?_
      refine S_X11_deny ?_
      refine R_eqs (st2 := [vI (-1)]) (σ2 := (kup σ 0 0 1)) rfl rfl ?_
      exact R_ireturn e_X11_planted_0.2.2.2.2.2.2.2.2.2 rfl h
/-! KiteLand.purseIn(II)I -/
theorem e_X11_purseIn_0 : decode cX11_purseIn 0 = .ok (.aload_n 0, 1) ∧ decode cX11_purseIn 1 = .ok (.getfield 43, 3) ∧ decode cX11_purseIn 4 = .ok (.iload_n 1, 1) ∧ decode cX11_purseIn 5 = .ok (.invokevirtual 238, 3) ∧ decode cX11_purseIn 8 = .ok (.ifCond .eq 11, 3) ∧ decode cX11_purseIn 11 = .ok (.aload_n 0, 1) ∧ decode cX11_purseIn 12 = .ok (.iload_n 2, 1) ∧ decode cX11_purseIn 13 = .ok (.invokevirtual 378, 3) ∧ decode cX11_purseIn 16 = .ok (.ifCond .ne 9, 3) ∧ decode cX11_purseIn 19 = .ok (.aload_n 0, 1) := by decide +kernel
theorem e_X11_purseIn_1 : decode cX11_purseIn 20 = .ok (.iconst 1, 1) ∧ decode cX11_purseIn 21 = .ok (.invokevirtual 132, 3) ∧ decode cX11_purseIn 24 = .ok (.ireturn, 1) ∧ decode cX11_purseIn 25 = .ok (.aload_n 0, 1) ∧ decode cX11_purseIn 26 = .ok (.iload_n 2, 1) ∧ decode cX11_purseIn 27 = .ok (.invokevirtual 390, 3) ∧ decode cX11_purseIn 30 = .ok (.aload_n 0, 1) ∧ decode cX11_purseIn 31 = .ok (.aload_n 0, 1) ∧ decode cX11_purseIn 32 = .ok (.getfield 47, 3) ∧ decode cX11_purseIn 35 = .ok (.getfield 241, 3) := by decide +kernel
theorem e_X11_purseIn_2 : decode cX11_purseIn 38 = .ok (.iload_n 1, 1) ∧ decode cX11_purseIn 39 = .ok (.aaload, 1) ∧ decode cX11_purseIn 40 = .ok (.getfield 262, 3) ∧ decode cX11_purseIn 43 = .ok (.invokevirtual 176, 3) ∧ decode cX11_purseIn 46 = .ok (.ireturn, 1) := by decide +kernel
theorem S_X11_purseIn {G : Kg} {σ : Kmem} {Q : Int → Kmem → Prop} {l1 l2 : Int} {v : Int → Int}  (h : (wf v ∧ kco σ 5 v ∧ rI (l1)) ∧ ((¬ (sKt v (l1)) → Q (-1) (kup σ 0 0 1)) ∧ ((sKt v (l1)) → (rI (l2)) ∧ ((((0 : Int) ≤ l2 ∧ (l2 : Int) ≤ 99) → Run G WX M_X11_goAhead 5 0 0 [vA G 0, vI l2] σ (fun r9 s10 => (0 ≤ l1 ∧ l1 < 6) ∧ Q (s10 (31 + 6 + l1) 7) (kup s10 0 0 0))) ∧ (¬ ((0 : Int) ≤ l2 ∧ (l2 : Int) ≤ 99) → Q (-1) (kup σ 0 0 1)))))) : Run G WX M_X11_purseIn 6 0 0 [vA G 0, vI l1, vI l2] σ Q := by
  refine Run.of (by decide +kernel) (by show (3 : Nat) ≤ 3; decide) ?_
  show Ex G WX M_X11_purseIn 6 0 0 0 [(0, vA G 0), (1, vI l1), (2, vI l2)] [] σ Q
  refine R_aload_n e_X11_purseIn_0.1 0 rfl ?_
  refine R_getA 11 7 5 e_X11_purseIn_0.2.1 f_X11_43 kx_0 (fun _ _ => rfl) rx_0_7 (by decide) ?_
  refine R_iload_n e_X11_purseIn_0.2.2.1 1 rfl ?_
  obtain ⟨q3, h⟩ := h
  refine R_callV (mc := 0) (ms := 0) (mc' := 0) (ms' := 0) (M' := M_X0_hasKite) (d' := 0) (as := [vI l1]) (st := []) 0 1 e_X11_purseIn_0.2.2.2.1 (kCVof m_X0_hasKite l_X11_238) rfl (by decide) (kC_self isC_5) (by decide) (by decide) rfl rfl (by show (0 : Nat) ≤ 8; decide) ?_
  refine Run.mono (P_X0_hasKite isC_5 q3) (fun rr ss e => ?_)
  obtain ⟨e1, e2⟩ := e
  refine R_eqs (st2 := [vI (kb (sKt v (l1)))]) (σ2 := σ) (by rw [e1]; rfl) e2 ?_
  refine R_if_eq 19 e_X11_purseIn_0.2.2.2.2.1 (by decide) (kb_r _) (fun q => ?_) (fun q => ?_)
  · replace h := h.1 (kb_f q)
    refine R_aload_n e_X11_purseIn_0.2.2.2.2.2.2.2.2.2 0 rfl ?_
    refine R_iconst e_X11_purseIn_1.1 ?_
    refine R_callV (mc := 0) (ms := 0) (mc' := 0) (ms' := 0) (M' := M_X11_deny) (d' := 0) (as := [vI 1]) (st := []) 11 1 e_X11_purseIn_1.2.1 (kCVof m_X11_deny l_X11_132) rfl (by decide) kx_0 (by decide) (by decide) rfl rfl (by show (0 : Nat) ≤ 8; decide) ?_
    refine S_X11_deny ?_
    refine R_eqs (st2 := [vI (-1)]) (σ2 := (kup σ 0 0 1)) rfl rfl ?_
    exact R_ireturn e_X11_purseIn_1.2.2.1 rfl h
  · replace h := h.2 (kb_t q)
    refine R_aload_n e_X11_purseIn_0.2.2.2.2.2.1 0 rfl ?_
    refine R_iload_n e_X11_purseIn_0.2.2.2.2.2.2.1 2 rfl ?_
    obtain ⟨q8, h⟩ := h
    refine R_callV (mc := 0) (ms := 0) (mc' := 0) (ms' := 0) (M' := M_X11_isAhead) (d' := 0) (as := [vI l2]) (st := []) 11 1 e_X11_purseIn_0.2.2.2.2.2.2.2.1 (kCVof m_X11_isAhead l_X11_378) rfl (by decide) kx_0 (by decide) (by decide) rfl rfl (by show (0 : Nat) ≤ 8; decide) ?_
    refine Run.mono (P_X11_isAhead q8) (fun rr ss e => ?_)
    obtain ⟨e1, e2⟩ := e
    refine R_eqs (st2 := [vI (kb ((0 : Int) ≤ l2 ∧ (l2 : Int) ≤ 99))]) (σ2 := σ) (by rw [e1]; rfl) e2 ?_
    refine R_if_ne 25 e_X11_purseIn_0.2.2.2.2.2.2.2.2.1 (by decide) (kb_r _) (fun q => ?_) (fun q => ?_)
    · replace h := h.1 (kb_t q)
      refine R_aload_n e_X11_purseIn_1.2.2.2.1 0 rfl ?_
      refine R_iload_n e_X11_purseIn_1.2.2.2.2.1 2 rfl ?_
      refine R_callV (mc := 0) (ms := 0) (mc' := 0) (ms' := 0) (M' := M_X11_goAhead) (d' := 5) (as := [vI l2]) (st := []) 11 1 e_X11_purseIn_1.2.2.2.2.2.1 (kCVof m_X11_goAhead l_X11_390) rfl (by decide) kx_0 (by decide) (by decide) rfl rfl (by show (0 : Nat) ≤ 8; decide) ?_
      refine Run.mono h (fun r9 s10 h => ?_)
      refine R_eqs (st2 := []) rfl rfl ?_
      refine R_aload_n e_X11_purseIn_1.2.2.2.2.2.2.1 0 rfl ?_
      refine R_aload_n e_X11_purseIn_1.2.2.2.2.2.2.2.1 0 rfl ?_
      refine R_getA 11 8 31 e_X11_purseIn_1.2.2.2.2.2.2.2.2.1 f_X11_47 kx_0 (fun _ _ => rfl) rx_0_8 (by decide) ?_
      refine R_getA 0 10 (31 + 3) e_X11_purseIn_1.2.2.2.2.2.2.2.2.2 f_X11_241 (kC_self isC_31) (fun _ _ => rfl) (kC_r10 isC_31) (kC_n3 isC_31) ?_
      refine R_iload_n e_X11_purseIn_2.1 1 rfl ?_
      obtain ⟨q11, h⟩ := h
      refine R_aald 27 6 (31 + 6 + l1) e_X11_purseIn_2.2.1 (by decide) (kC_kites isC_31) q11 (kC_kiteAt isC_31 q11) (kC_kiteN isC_31 q11) ?_
      refine R_getI 3 7 7 e_X11_purseIn_2.2.2.1 f_X11_262 (kC_kite isC_31 q11) (fun _ _ => rfl) rfl ?_
      refine R_callV (mc := 0) (ms := 0) (mc' := 0) (ms' := 0) (M' := M_X11_give) (d' := 0) (as := [vI (s10 (31 + 6 + l1) 7)]) (st := []) 11 1 e_X11_purseIn_2.2.2.2.1 (kCVof m_X11_give l_X11_176) rfl (by decide) kx_0 (by decide) (by decide) rfl rfl (by show (0 : Nat) ≤ 8; decide) ?_
      refine S_X11_give ?_
      refine R_eqs (st2 := [vI (s10 (31 + 6 + l1) 7)]) (σ2 := (kup s10 0 0 0)) rfl rfl ?_
      exact R_ireturn e_X11_purseIn_2.2.2.2.2 rfl h
    · replace h := h.2 (kb_f q)
      refine R_aload_n e_X11_purseIn_0.2.2.2.2.2.2.2.2.2 0 rfl ?_
      refine R_iconst e_X11_purseIn_1.1 ?_
      refine R_callV (mc := 0) (ms := 0) (mc' := 0) (ms' := 0) (M' := M_X11_deny) (d' := 0) (as := [vI 1]) (st := []) 11 1 e_X11_purseIn_1.2.1 (kCVof m_X11_deny l_X11_132) rfl (by decide) kx_0 (by decide) (by decide) rfl rfl (by show (0 : Nat) ≤ 8; decide) ?_
      refine S_X11_deny ?_
      refine R_eqs (st2 := [vI (-1)]) (σ2 := (kup σ 0 0 1)) rfl rfl ?_
      exact R_ireturn e_X11_purseIn_1.2.2.1 rfl h
/-! KiteLand.tenantIn(II)I -/
theorem e_X11_tenantIn_0 : decode cX11_tenantIn 0 = .ok (.aload_n 0, 1) ∧ decode cX11_tenantIn 1 = .ok (.getfield 43, 3) ∧ decode cX11_tenantIn 4 = .ok (.iload_n 1, 1) ∧ decode cX11_tenantIn 5 = .ok (.invokevirtual 288, 3) ∧ decode cX11_tenantIn 8 = .ok (.ifCond .eq 11, 3) ∧ decode cX11_tenantIn 11 = .ok (.aload_n 0, 1) ∧ decode cX11_tenantIn 12 = .ok (.iload_n 2, 1) ∧ decode cX11_tenantIn 13 = .ok (.invokevirtual 378, 3) ∧ decode cX11_tenantIn 16 = .ok (.ifCond .ne 9, 3) ∧ decode cX11_tenantIn 19 = .ok (.aload_n 0, 1) := by decide +kernel
theorem e_X11_tenantIn_1 : decode cX11_tenantIn 20 = .ok (.iconst 1, 1) ∧ decode cX11_tenantIn 21 = .ok (.invokevirtual 132, 3) ∧ decode cX11_tenantIn 24 = .ok (.ireturn, 1) ∧ decode cX11_tenantIn 25 = .ok (.aload_n 0, 1) ∧ decode cX11_tenantIn 26 = .ok (.iload_n 2, 1) ∧ decode cX11_tenantIn 27 = .ok (.invokevirtual 390, 3) ∧ decode cX11_tenantIn 30 = .ok (.aload_n 0, 1) ∧ decode cX11_tenantIn 31 = .ok (.aload_n 0, 1) ∧ decode cX11_tenantIn 32 = .ok (.aload_n 0, 1) ∧ decode cX11_tenantIn 33 = .ok (.getfield 47, 3) := by decide +kernel
theorem e_X11_tenantIn_2 : decode cX11_tenantIn 36 = .ok (.getfield 291, 3) ∧ decode cX11_tenantIn 39 = .ok (.iload_n 1, 1) ∧ decode cX11_tenantIn 40 = .ok (.aaload, 1) ∧ decode cX11_tenantIn 41 = .ok (.getfield 295, 3) ∧ decode cX11_tenantIn 44 = .ok (.aload_n 0, 1) ∧ decode cX11_tenantIn 45 = .ok (.getfield 47, 3) ∧ decode cX11_tenantIn 48 = .ok (.getfield 291, 3) ∧ decode cX11_tenantIn 51 = .ok (.iload_n 1, 1) ∧ decode cX11_tenantIn 52 = .ok (.aaload, 1) ∧ decode cX11_tenantIn 53 = .ok (.getfield 298, 3) := by decide +kernel
theorem e_X11_tenantIn_3 : decode cX11_tenantIn 56 = .ok (.invokevirtual 359, 3) ∧ decode cX11_tenantIn 59 = .ok (.invokevirtual 176, 3) ∧ decode cX11_tenantIn 62 = .ok (.ireturn, 1) := by decide +kernel
theorem S_X11_tenantIn {G : Kg} {σ : Kmem} {Q : Int → Kmem → Prop} {l1 l2 : Int} {v : Int → Int}  (h : (wf v ∧ kco σ 5 v ∧ rI (l1)) ∧ ((¬ ((0 : Int) ≤ l1 ∧ (l1 : Int) < v 4) → Q (-1) (kup σ 0 0 1)) ∧ (((0 : Int) ≤ l1 ∧ (l1 : Int) < v 4) → (rI (l2)) ∧ ((((0 : Int) ≤ l2 ∧ (l2 : Int) ≤ 99) → Run G WX M_X11_goAhead 5 0 0 [vA G 0, vI l2] σ (fun r9 s10 => (0 ≤ l1 ∧ l1 < 6) ∧ (0 ≤ l1 ∧ l1 < 6) ∧ Q (((s10 (31 + 20 + l1) 2) * 10) + (s10 (31 + 20 + l1) 1)) (kup s10 0 0 0))) ∧ (¬ ((0 : Int) ≤ l2 ∧ (l2 : Int) ≤ 99) → Q (-1) (kup σ 0 0 1)))))) : Run G WX M_X11_tenantIn 6 0 0 [vA G 0, vI l1, vI l2] σ Q := by
  refine Run.of (by decide +kernel) (by show (3 : Nat) ≤ 3; decide) ?_
  show Ex G WX M_X11_tenantIn 6 0 0 0 [(0, vA G 0), (1, vI l1), (2, vI l2)] [] σ Q
  refine R_aload_n e_X11_tenantIn_0.1 0 rfl ?_
  refine R_getA 11 7 5 e_X11_tenantIn_0.2.1 f_X11_43 kx_0 (fun _ _ => rfl) rx_0_7 (by decide) ?_
  refine R_iload_n e_X11_tenantIn_0.2.2.1 1 rfl ?_
  obtain ⟨q3, h⟩ := h
  refine R_callV (mc := 0) (ms := 0) (mc' := 0) (ms' := 0) (M' := M_X0_hasTenant) (d' := 0) (as := [vI l1]) (st := []) 0 1 e_X11_tenantIn_0.2.2.2.1 (kCVof m_X0_hasTenant l_X11_288) rfl (by decide) (kC_self isC_5) (by decide) (by decide) rfl rfl (by show (0 : Nat) ≤ 8; decide) ?_
  refine Run.mono (P_X0_hasTenant isC_5 q3) (fun rr ss e => ?_)
  obtain ⟨e1, e2⟩ := e
  refine R_eqs (st2 := [vI (kb ((0 : Int) ≤ l1 ∧ (l1 : Int) < v 4))]) (σ2 := σ) (by rw [e1]; rfl) e2 ?_
  refine R_if_eq 19 e_X11_tenantIn_0.2.2.2.2.1 (by decide) (kb_r _) (fun q => ?_) (fun q => ?_)
  · replace h := h.1 (kb_f q)
    refine R_aload_n e_X11_tenantIn_0.2.2.2.2.2.2.2.2.2 0 rfl ?_
    refine R_iconst e_X11_tenantIn_1.1 ?_
    refine R_callV (mc := 0) (ms := 0) (mc' := 0) (ms' := 0) (M' := M_X11_deny) (d' := 0) (as := [vI 1]) (st := []) 11 1 e_X11_tenantIn_1.2.1 (kCVof m_X11_deny l_X11_132) rfl (by decide) kx_0 (by decide) (by decide) rfl rfl (by show (0 : Nat) ≤ 8; decide) ?_
    refine S_X11_deny ?_
    refine R_eqs (st2 := [vI (-1)]) (σ2 := (kup σ 0 0 1)) rfl rfl ?_
    exact R_ireturn e_X11_tenantIn_1.2.2.1 rfl h
  · replace h := h.2 (kb_t q)
    refine R_aload_n e_X11_tenantIn_0.2.2.2.2.2.1 0 rfl ?_
    refine R_iload_n e_X11_tenantIn_0.2.2.2.2.2.2.1 2 rfl ?_
    obtain ⟨q8, h⟩ := h
    refine R_callV (mc := 0) (ms := 0) (mc' := 0) (ms' := 0) (M' := M_X11_isAhead) (d' := 0) (as := [vI l2]) (st := []) 11 1 e_X11_tenantIn_0.2.2.2.2.2.2.2.1 (kCVof m_X11_isAhead l_X11_378) rfl (by decide) kx_0 (by decide) (by decide) rfl rfl (by show (0 : Nat) ≤ 8; decide) ?_
    refine Run.mono (P_X11_isAhead q8) (fun rr ss e => ?_)
    obtain ⟨e1, e2⟩ := e
    refine R_eqs (st2 := [vI (kb ((0 : Int) ≤ l2 ∧ (l2 : Int) ≤ 99))]) (σ2 := σ) (by rw [e1]; rfl) e2 ?_
    refine R_if_ne 25 e_X11_tenantIn_0.2.2.2.2.2.2.2.2.1 (by decide) (kb_r _) (fun q => ?_) (fun q => ?_)
    · replace h := h.1 (kb_t q)
      refine R_aload_n e_X11_tenantIn_1.2.2.2.1 0 rfl ?_
      refine R_iload_n e_X11_tenantIn_1.2.2.2.2.1 2 rfl ?_
      refine R_callV (mc := 0) (ms := 0) (mc' := 0) (ms' := 0) (M' := M_X11_goAhead) (d' := 5) (as := [vI l2]) (st := []) 11 1 e_X11_tenantIn_1.2.2.2.2.2.1 (kCVof m_X11_goAhead l_X11_390) rfl (by decide) kx_0 (by decide) (by decide) rfl rfl (by show (0 : Nat) ≤ 8; decide) ?_
      refine Run.mono h (fun r9 s10 h => ?_)
      refine R_eqs (st2 := []) rfl rfl ?_
      refine R_aload_n e_X11_tenantIn_1.2.2.2.2.2.2.1 0 rfl ?_
      refine R_aload_n e_X11_tenantIn_1.2.2.2.2.2.2.2.1 0 rfl ?_
      refine R_aload_n e_X11_tenantIn_1.2.2.2.2.2.2.2.2.1 0 rfl ?_
      refine R_getA 11 8 31 e_X11_tenantIn_1.2.2.2.2.2.2.2.2.2 f_X11_47 kx_0 (fun _ _ => rfl) rx_0_8 (by decide) ?_
      refine R_getA 0 12 (31 + 5) e_X11_tenantIn_2.1 f_X11_291 (kC_self isC_31) (fun _ _ => rfl) (kC_r12 isC_31) (kC_n5 isC_31) ?_
      refine R_iload_n e_X11_tenantIn_2.2.1 1 rfl ?_
      obtain ⟨q11, h⟩ := h
      refine R_aald 29 6 (31 + 20 + l1) e_X11_tenantIn_2.2.2.1 (by decide) (kC_tens isC_31) q11 (kC_tenAt isC_31 q11) (kC_tenN isC_31 q11) ?_
      refine R_getI 9 1 1 e_X11_tenantIn_2.2.2.2.1 f_X11_295 (kC_ten isC_31 q11) (fun _ _ => rfl) rfl ?_
      refine R_aload_n e_X11_tenantIn_2.2.2.2.2.1 0 rfl ?_
      refine R_getA 11 8 31 e_X11_tenantIn_2.2.2.2.2.2.1 f_X11_47 kx_0 (fun _ _ => rfl) rx_0_8 (by decide) ?_
      refine R_getA 0 12 (31 + 5) e_X11_tenantIn_2.2.2.2.2.2.2.1 f_X11_291 (kC_self isC_31) (fun _ _ => rfl) (kC_r12 isC_31) (kC_n5 isC_31) ?_
      refine R_iload_n e_X11_tenantIn_2.2.2.2.2.2.2.2.1 1 rfl ?_
      obtain ⟨q12, h⟩ := h
      refine R_aald 29 6 (31 + 20 + l1) e_X11_tenantIn_2.2.2.2.2.2.2.2.2.1 (by decide) (kC_tens isC_31) q12 (kC_tenAt isC_31 q12) (kC_tenN isC_31 q12) ?_
      refine R_getI 9 2 2 e_X11_tenantIn_2.2.2.2.2.2.2.2.2.2 f_X11_298 (kC_ten isC_31 q12) (fun _ _ => rfl) rfl ?_
      refine R_callV (mc := 0) (ms := 0) (mc' := 0) (ms' := 0) (M' := M_X11_fieldNumber) (d' := 0) (as := [vI (s10 (31 + 20 + l1) 1), vI (s10 (31 + 20 + l1) 2)]) (st := [vA G 0]) 11 2 e_X11_tenantIn_3.1 (kCVof m_X11_fieldNumber l_X11_359) rfl (by decide) kx_0 (by decide) (by decide) rfl rfl (by show (1 : Nat) ≤ 8; decide) ?_
      refine S_X11_fieldNumber ?_
      refine R_eqs (st2 := [vI (((s10 (31 + 20 + l1) 2) * 10) + (s10 (31 + 20 + l1) 1)), vA G 0]) (σ2 := s10) rfl rfl ?_
      refine R_callV (mc := 0) (ms := 0) (mc' := 0) (ms' := 0) (M' := M_X11_give) (d' := 0) (as := [vI (((s10 (31 + 20 + l1) 2) * 10) + (s10 (31 + 20 + l1) 1))]) (st := []) 11 1 e_X11_tenantIn_3.2.1 (kCVof m_X11_give l_X11_176) rfl (by decide) kx_0 (by decide) (by decide) rfl rfl (by show (0 : Nat) ≤ 8; decide) ?_
      refine S_X11_give ?_
      refine R_eqs (st2 := [vI (((s10 (31 + 20 + l1) 2) * 10) + (s10 (31 + 20 + l1) 1))]) (σ2 := (kup s10 0 0 0)) rfl rfl ?_
      exact R_ireturn e_X11_tenantIn_3.2.2 rfl h
    · replace h := h.2 (kb_f q)
      refine R_aload_n e_X11_tenantIn_0.2.2.2.2.2.2.2.2.2 0 rfl ?_
      refine R_iconst e_X11_tenantIn_1.1 ?_
      refine R_callV (mc := 0) (ms := 0) (mc' := 0) (ms' := 0) (M' := M_X11_deny) (d' := 0) (as := [vI 1]) (st := []) 11 1 e_X11_tenantIn_1.2.1 (kCVof m_X11_deny l_X11_132) rfl (by decide) kx_0 (by decide) (by decide) rfl rfl (by show (0 : Nat) ≤ 8; decide) ?_
      refine S_X11_deny ?_
      refine R_eqs (st2 := [vI (-1)]) (σ2 := (kup σ 0 0 1)) rfl rfl ?_
      exact R_ireturn e_X11_tenantIn_1.2.2.1 rfl h
/-! KiteLand.cutIn(I)I -/
theorem e_X11_cutIn_0 : decode cX11_cutIn 0 = .ok (.aload_n 0, 1) ∧ decode cX11_cutIn 1 = .ok (.getfield 43, 3) ∧ decode cX11_cutIn 4 = .ok (.iload_n 1, 1) ∧ decode cX11_cutIn 5 = .ok (.invokevirtual 238, 3) ∧ decode cX11_cutIn 8 = .ok (.ifCond .ne 9, 3) ∧ decode cX11_cutIn 11 = .ok (.aload_n 0, 1) ∧ decode cX11_cutIn 12 = .ok (.iconst 1, 1) ∧ decode cX11_cutIn 13 = .ok (.invokevirtual 132, 3) ∧ decode cX11_cutIn 16 = .ok (.ireturn, 1) ∧ decode cX11_cutIn 17 = .ok (.aload_n 0, 1) := by decide +kernel
theorem e_X11_cutIn_1 : decode cX11_cutIn 18 = .ok (.getfield 47, 3) ∧ decode cX11_cutIn 21 = .ok (.aload_n 0, 1) ∧ decode cX11_cutIn 22 = .ok (.getfield 43, 3) ∧ decode cX11_cutIn 25 = .ok (.invokevirtual 167, 3) ∧ decode cX11_cutIn 28 = .ok (.iconst 0, 1) ∧ decode cX11_cutIn 29 = .ok (.istore_n 2, 1) ∧ decode cX11_cutIn 30 = .ok (.iload_n 2, 1) ∧ decode cX11_cutIn 31 = .ok (.bipush 99, 2) ∧ decode cX11_cutIn 33 = .ok (.if_icmp .gt 55, 3) ∧ decode cX11_cutIn 36 = .ok (.aload_n 0, 1) := by decide +kernel
theorem e_X11_cutIn_2 : decode cX11_cutIn 37 = .ok (.getfield 47, 3) ∧ decode cX11_cutIn 40 = .ok (.getfield 241, 3) ∧ decode cX11_cutIn 43 = .ok (.iload_n 1, 1) ∧ decode cX11_cutIn 44 = .ok (.aaload, 1) ∧ decode cX11_cutIn 45 = .ok (.getfield 362, 3) ∧ decode cX11_cutIn 48 = .ok (.ifCond .eq 9, 3) ∧ decode cX11_cutIn 51 = .ok (.aload_n 0, 1) ∧ decode cX11_cutIn 52 = .ok (.iload_n 2, 1) ∧ decode cX11_cutIn 53 = .ok (.invokevirtual 176, 3) ∧ decode cX11_cutIn 56 = .ok (.ireturn, 1) := by decide +kernel
theorem e_X11_cutIn_3 : decode cX11_cutIn 57 = .ok (.aload_n 0, 1) ∧ decode cX11_cutIn 58 = .ok (.getfield 47, 3) ∧ decode cX11_cutIn 61 = .ok (.aload_n 0, 1) ∧ decode cX11_cutIn 62 = .ok (.getfield 64, 3) ∧ decode cX11_cutIn 65 = .ok (.invokevirtual 371, 3) ∧ decode cX11_cutIn 68 = .ok (.pop, 1) ∧ decode cX11_cutIn 69 = .ok (.aload_n 0, 1) ∧ decode cX11_cutIn 70 = .ok (.getfield 47, 3) ∧ decode cX11_cutIn 73 = .ok (.dup, 1) ∧ decode cX11_cutIn 74 = .ok (.getfield 212, 3) := by decide +kernel
theorem e_X11_cutIn_4 : decode cX11_cutIn 77 = .ok (.iconst 1, 1) ∧ decode cX11_cutIn 78 = .ok (.iadd, 1) ∧ decode cX11_cutIn 79 = .ok (.putfield 212, 3) ∧ decode cX11_cutIn 82 = .ok (.iinc 2 1, 3) ∧ decode cX11_cutIn 85 = .ok (.goto (-55), 3) ∧ decode cX11_cutIn 88 = .ok (.aload_n 0, 1) ∧ decode cX11_cutIn 89 = .ok (.bipush 6, 2) ∧ decode cX11_cutIn 91 = .ok (.invokevirtual 132, 3) ∧ decode cX11_cutIn 94 = .ok (.ireturn, 1) := by decide +kernel
abbrev E_X11_cutIn_30 (G : Kg) (l1 l2 : Int) (σ : Kmem) (Q : Int → Kmem → Prop) : Prop := Ex G WX M_X11_cutIn 4 0 0 30 [(0, vA G 0), (1, vI l1), (2, vI l2)] [] σ Q
theorem S_X11_cutIn {G : Kg} {σ : Kmem} {Q : Int → Kmem → Prop} {l1 : Int} {v : Int → Int}  (h : (wf v ∧ kco σ 5 v ∧ rI (l1)) ∧ (((sKt v (l1)) → Run G WX M_X0_copy 1 0 0 [vA G 31, vA G 5] σ (fun r4 s5 => E_X11_cutIn_30 G l1 0 s5 Q)) ∧ (¬ (sKt v (l1)) → Q (-1) (kup σ 0 0 1)))) : Run G WX M_X11_cutIn 4 0 0 [vA G 0, vI l1] σ Q := by
  refine Run.of (by decide +kernel) (by show (2 : Nat) ≤ 3; decide) ?_
  show Ex G WX M_X11_cutIn 4 0 0 0 [(0, vA G 0), (1, vI l1)] [] σ Q
  refine R_aload_n e_X11_cutIn_0.1 0 rfl ?_
  refine R_getA 11 7 5 e_X11_cutIn_0.2.1 f_X11_43 kx_0 (fun _ _ => rfl) rx_0_7 (by decide) ?_
  refine R_iload_n e_X11_cutIn_0.2.2.1 1 rfl ?_
  obtain ⟨q3, h⟩ := h
  refine R_callV (mc := 0) (ms := 0) (mc' := 0) (ms' := 0) (M' := M_X0_hasKite) (d' := 0) (as := [vI l1]) (st := []) 0 1 e_X11_cutIn_0.2.2.2.1 (kCVof m_X0_hasKite l_X11_238) rfl (by decide) (kC_self isC_5) (by decide) (by decide) rfl rfl (by show (0 : Nat) ≤ 8; decide) ?_
  refine Run.mono (P_X0_hasKite isC_5 q3) (fun rr ss e => ?_)
  obtain ⟨e1, e2⟩ := e
  refine R_eqs (st2 := [vI (kb (sKt v (l1)))]) (σ2 := σ) (by rw [e1]; rfl) e2 ?_
  refine R_if_ne 17 e_X11_cutIn_0.2.2.2.2.1 (by decide) (kb_r _) (fun q => ?_) (fun q => ?_)
  · replace h := h.1 (kb_t q)
    refine R_aload_n e_X11_cutIn_0.2.2.2.2.2.2.2.2.2 0 rfl ?_
    refine R_getA 11 8 31 e_X11_cutIn_1.1 f_X11_47 kx_0 (fun _ _ => rfl) rx_0_8 (by decide) ?_
    refine R_aload_n e_X11_cutIn_1.2.1 0 rfl ?_
    refine R_getA 11 7 5 e_X11_cutIn_1.2.2.1 f_X11_43 kx_0 (fun _ _ => rfl) rx_0_7 (by decide) ?_
    refine R_callV (mc := 0) (ms := 0) (mc' := 0) (ms' := 0) (M' := M_X0_copy) (d' := 1) (as := [vA G 5]) (st := []) 0 1 e_X11_cutIn_1.2.2.2.1 (kCVof m_X0_copy l_X11_167) rfl (by decide) (kC_self isC_31) (by decide) (by decide) rfl rfl (by show (0 : Nat) ≤ 8; decide) ?_
    refine Run.mono h (fun r4 s5 h => ?_)
    refine R_eqs (st2 := []) rfl rfl ?_
    refine R_iconst e_X11_cutIn_1.2.2.2.2.1 ?_
    refine R_istore_n (ls2 := [(2, vI 0), (0, vA G 0), (1, vI l1)]) e_X11_cutIn_1.2.2.2.2.2.1 (by decide) rfl ?_
    refine R_ls (ls2 := [(0, vA G 0), (1, vI l1), (2, vI 0)]) [1, 2, 0] rfl ?_
    exact h
  · replace h := h.2 (kb_f q)
    refine R_aload_n e_X11_cutIn_0.2.2.2.2.2.1 0 rfl ?_
    refine R_iconst e_X11_cutIn_0.2.2.2.2.2.2.1 ?_
    refine R_callV (mc := 0) (ms := 0) (mc' := 0) (ms' := 0) (M' := M_X11_deny) (d' := 0) (as := [vI 1]) (st := []) 11 1 e_X11_cutIn_0.2.2.2.2.2.2.2.1 (kCVof m_X11_deny l_X11_132) rfl (by decide) kx_0 (by decide) (by decide) rfl rfl (by show (0 : Nat) ≤ 8; decide) ?_
    refine S_X11_deny ?_
    refine R_eqs (st2 := [vI (-1)]) (σ2 := (kup σ 0 0 1)) rfl rfl ?_
    exact R_ireturn e_X11_cutIn_0.2.2.2.2.2.2.2.2.1 rfl h
theorem S_X11_cutIn_30 {G : Kg} {σ : Kmem} {Q : Int → Kmem → Prop} {l1 l2 : Int}  (h : (rI l2) ∧ ((99 < l2 → Q (-1) (kup σ 0 0 6)) ∧ (l2 ≤ 99 → (0 ≤ l1 ∧ l1 < 6) ∧ (rI (σ (31 + 6 + l1) 9)) ∧ ((σ (31 + 6 + l1) 9 = 0 → Run G WX M_X0_loseCrossed 3 0 0 [vA G 31, vA G 58] σ (fun r13 s14 => E_X11_cutIn_30 G l1 (l2 + 1) (kup s14 31 4 ((s14 31 4) + 1)) Q)) ∧ (σ (31 + 6 + l1) 9 ≠ 0 → Q l2 (kup σ 0 0 0)))))) : E_X11_cutIn_30 G l1 l2 σ Q := by
  refine R_iload_n e_X11_cutIn_1.2.2.2.2.2.2.1 2 rfl ?_
  refine R_bipush e_X11_cutIn_1.2.2.2.2.2.2.2.1 (by decide) ?_
  obtain ⟨q8, h⟩ := h
  refine R_icmp_gt 88 e_X11_cutIn_1.2.2.2.2.2.2.2.2.1 (by decide) q8 (by decide) (fun q => ?_) (fun q => ?_)
  · replace h := h.1 q
    refine R_aload_n e_X11_cutIn_4.2.2.2.2.2.1 0 rfl ?_
    refine R_bipush e_X11_cutIn_4.2.2.2.2.2.2.1 (by decide) ?_
    refine R_callV (mc := 0) (ms := 0) (mc' := 0) (ms' := 0) (M' := M_X11_deny) (d' := 0) (as := [vI 6]) (st := []) 11 1 e_X11_cutIn_4.2.2.2.2.2.2.2.1 (kCVof m_X11_deny l_X11_132) rfl (by decide) kx_0 (by decide) (by decide) rfl rfl (by show (0 : Nat) ≤ 8; decide) ?_
    refine S_X11_deny ?_
    refine R_eqs (st2 := [vI (-1)]) (σ2 := (kup σ 0 0 6)) rfl rfl ?_
    exact R_ireturn e_X11_cutIn_4.2.2.2.2.2.2.2.2 rfl h
  · replace h := h.2 q
    refine R_aload_n e_X11_cutIn_1.2.2.2.2.2.2.2.2.2 0 rfl ?_
    refine R_getA 11 8 31 e_X11_cutIn_2.1 f_X11_47 kx_0 (fun _ _ => rfl) rx_0_8 (by decide) ?_
    refine R_getA 0 10 (31 + 3) e_X11_cutIn_2.2.1 f_X11_241 (kC_self isC_31) (fun _ _ => rfl) (kC_r10 isC_31) (kC_n3 isC_31) ?_
    refine R_iload_n e_X11_cutIn_2.2.2.1 1 rfl ?_
    obtain ⟨q11, h⟩ := h
    refine R_aald 27 6 (31 + 6 + l1) e_X11_cutIn_2.2.2.2.1 (by decide) (kC_kites isC_31) q11 (kC_kiteAt isC_31 q11) (kC_kiteN isC_31 q11) ?_
    refine R_getI 3 9 9 e_X11_cutIn_2.2.2.2.2.1 f_X11_362 (kC_kite isC_31 q11) (fun _ _ => rfl) rfl ?_
    obtain ⟨q12, h⟩ := h
    refine R_if_eq 57 e_X11_cutIn_2.2.2.2.2.2.1 (by decide) q12  (fun q => ?_) (fun q => ?_)
    · replace h := h.1 q
      refine R_aload_n e_X11_cutIn_3.1 0 rfl ?_
      refine R_getA 11 8 31 e_X11_cutIn_3.2.1 f_X11_47 kx_0 (fun _ _ => rfl) rx_0_8 (by decide) ?_
      refine R_aload_n e_X11_cutIn_3.2.2.1 0 rfl ?_
      refine R_getA 11 10 58 e_X11_cutIn_3.2.2.2.1 f_X11_64 kx_0 (fun _ _ => rfl) rx_0_10 (by decide) ?_
      refine R_callV (mc := 0) (ms := 0) (mc' := 0) (ms' := 0) (M' := M_X0_loseCrossed) (d' := 3) (as := [vA G 58]) (st := []) 0 1 e_X11_cutIn_3.2.2.2.2.1 (kCVof m_X0_loseCrossed l_X11_371) rfl (by decide) (kC_self isC_31) (by decide) (by decide) rfl rfl (by show (0 : Nat) ≤ 8; decide) ?_
      refine Run.mono h (fun r13 s14 h => ?_)
      refine R_eqs (st2 := [vI r13]) rfl rfl ?_
      refine R_pop e_X11_cutIn_3.2.2.2.2.2.1 rfl ?_
      refine R_aload_n e_X11_cutIn_3.2.2.2.2.2.2.1 0 rfl ?_
      refine R_getA 11 8 31 e_X11_cutIn_3.2.2.2.2.2.2.2.1 f_X11_47 kx_0 (fun _ _ => rfl) rx_0_8 (by decide) ?_
      refine R_dup e_X11_cutIn_3.2.2.2.2.2.2.2.2.1 rfl ?_
      refine R_getI 0 4 4 e_X11_cutIn_3.2.2.2.2.2.2.2.2.2 f_X11_212 (kC_self isC_31) (fun _ _ => rfl) rfl ?_
      refine R_iconst e_X11_cutIn_4.1 ?_
      refine R_iadd e_X11_cutIn_4.2.1 ?_
      refine R_putI 0 4 4 WX_ok e_X11_cutIn_4.2.2.1 f_X11_212 (kC_self isC_31) rfl rfl rfl ?_
      refine R_iinc (ls2 := [(2, vI (l2 + 1)), (0, vA G 0), (1, vI l1)]) e_X11_cutIn_4.2.2.2.1 2 rfl (by decide) rfl ?_
      refine R_goto 30 e_X11_cutIn_4.2.2.2.2.1 (by decide) ?_
      refine R_ls (ls2 := [(0, vA G 0), (1, vI l1), (2, vI (l2 + 1))]) [1, 2, 0] rfl ?_
      exact h
    · replace h := h.2 q
      refine R_aload_n e_X11_cutIn_2.2.2.2.2.2.2.1 0 rfl ?_
      refine R_iload_n e_X11_cutIn_2.2.2.2.2.2.2.2.1 2 rfl ?_
      refine R_callV (mc := 0) (ms := 0) (mc' := 0) (ms' := 0) (M' := M_X11_give) (d' := 0) (as := [vI l2]) (st := []) 11 1 e_X11_cutIn_2.2.2.2.2.2.2.2.2.1 (kCVof m_X11_give l_X11_176) rfl (by decide) kx_0 (by decide) (by decide) rfl rfl (by show (0 : Nat) ≤ 8; decide) ?_
      refine S_X11_give ?_
      refine R_eqs (st2 := [vI l2]) (σ2 := (kup σ 0 0 0)) rfl rfl ?_
      exact R_ireturn e_X11_cutIn_2.2.2.2.2.2.2.2.2.2 rfl h
/-! KiteLand.fly(IIII)I -/
theorem e_X11_fly_0 : decode cX11_fly 0 = .ok (.aload_n 0, 1) ∧ decode cX11_fly 1 = .ok (.getfield 43, 3) ∧ decode cX11_fly 4 = .ok (.iload_n 1, 1) ∧ decode cX11_fly 5 = .ok (.invokevirtual 238, 3) ∧ decode cX11_fly 8 = .ok (.ifCond .eq 27, 3) ∧ decode cX11_fly 11 = .ok (.aload_n 0, 1) ∧ decode cX11_fly 12 = .ok (.getfield 43, 3) ∧ decode cX11_fly 15 = .ok (.iload_n 2, 1) ∧ decode cX11_fly 16 = .ok (.iload_n 3, 1) ∧ decode cX11_fly 17 = .ok (.invokevirtual 321, 3) := by decide +kernel
theorem e_X11_fly_1 : decode cX11_fly 20 = .ok (.ifCond .eq 15, 3) ∧ decode cX11_fly 23 = .ok (.iload 4, 2) ∧ decode cX11_fly 25 = .ok (.iconst 1, 1) ∧ decode cX11_fly 26 = .ok (.if_icmp .lt 9, 3) ∧ decode cX11_fly 29 = .ok (.iload 4, 2) ∧ decode cX11_fly 31 = .ok (.iconst 5, 1) ∧ decode cX11_fly 32 = .ok (.if_icmp .le 9, 3) ∧ decode cX11_fly 35 = .ok (.aload_n 0, 1) ∧ decode cX11_fly 36 = .ok (.iconst 1, 1) ∧ decode cX11_fly 37 = .ok (.invokevirtual 132, 3) := by decide +kernel
theorem e_X11_fly_2 : decode cX11_fly 40 = .ok (.ireturn, 1) ∧ decode cX11_fly 41 = .ok (.aload_n 0, 1) ∧ decode cX11_fly 42 = .ok (.getfield 47, 3) ∧ decode cX11_fly 45 = .ok (.aload_n 0, 1) ∧ decode cX11_fly 46 = .ok (.getfield 43, 3) ∧ decode cX11_fly 49 = .ok (.invokevirtual 167, 3) ∧ decode cX11_fly 52 = .ok (.aload_n 0, 1) ∧ decode cX11_fly 53 = .ok (.getfield 93, 3) ∧ decode cX11_fly 56 = .ok (.iload_n 1, 1) ∧ decode cX11_fly 57 = .ok (.iload_n 2, 1) := by decide +kernel
theorem e_X11_fly_3 : decode cX11_fly 58 = .ok (.iload_n 3, 1) ∧ decode cX11_fly 59 = .ok (.iload 4, 2) ∧ decode cX11_fly 61 = .ok (.invokevirtual 393, 3) ∧ decode cX11_fly 64 = .ok (.aload_n 0, 1) ∧ decode cX11_fly 65 = .ok (.aload_n 0, 1) ∧ decode cX11_fly 66 = .ok (.getfield 93, 3) ∧ decode cX11_fly 69 = .ok (.getfield 397, 3) ∧ decode cX11_fly 72 = .ok (.invokevirtual 176, 3) ∧ decode cX11_fly 75 = .ok (.ireturn, 1) := by decide +kernel
theorem S_X11_fly {G : Kg} {σ : Kmem} {Q : Int → Kmem → Prop} {l1 l2 l3 l4 : Int} {v : Int → Int}  (h : (wf v ∧ kco σ 5 v ∧ rI (l1)) ∧ ((¬ (sKt v (l1)) → Q (-1) (kup σ 0 0 1)) ∧ ((sKt v (l1)) → (wf v ∧ kco σ 5 v ∧ rI (l2) ∧ rI (l3)) ∧ ((¬ (sFld v (l2) (l3)) → Q (-1) (kup σ 0 0 1)) ∧ ((sFld v (l2) (l3)) → (rI l4) ∧ ((l4 < 1 → Q (-1) (kup σ 0 0 1)) ∧ (1 ≤ l4 → ((l4 ≤ 5 → Run G WX M_X0_copy 1 0 0 [vA G 31, vA G 5] σ (fun r14 s15 => Run G WX M_X5_seekFlight 21 0 0 [vA G 82, vI l1, vI l2, vI l3, vI l4] s15 (fun r16 s17 => Q (s17 82 7) (kup s17 0 0 0)))) ∧ (5 < l4 → Q (-1) (kup σ 0 0 1)))))))))) : Run G WX M_X11_fly 22 0 0 [vA G 0, vI l1, vI l2, vI l3, vI l4] σ Q := by
  refine Run.of (by decide +kernel) (by show (5 : Nat) ≤ 5; decide) ?_
  show Ex G WX M_X11_fly 22 0 0 0 [(0, vA G 0), (1, vI l1), (2, vI l2), (3, vI l3), (4, vI l4)] [] σ Q
  refine R_aload_n e_X11_fly_0.1 0 rfl ?_
  refine R_getA 11 7 5 e_X11_fly_0.2.1 f_X11_43 kx_0 (fun _ _ => rfl) rx_0_7 (by decide) ?_
  refine R_iload_n e_X11_fly_0.2.2.1 1 rfl ?_
  obtain ⟨q3, h⟩ := h
  refine R_callV (mc := 0) (ms := 0) (mc' := 0) (ms' := 0) (M' := M_X0_hasKite) (d' := 0) (as := [vI l1]) (st := []) 0 1 e_X11_fly_0.2.2.2.1 (kCVof m_X0_hasKite l_X11_238) rfl (by decide) (kC_self isC_5) (by decide) (by decide) rfl rfl (by show (0 : Nat) ≤ 8; decide) ?_
  refine Run.mono (P_X0_hasKite isC_5 q3) (fun rr ss e => ?_)
  obtain ⟨e1, e2⟩ := e
  refine R_eqs (st2 := [vI (kb (sKt v (l1)))]) (σ2 := σ) (by rw [e1]; rfl) e2 ?_
  refine R_if_eq 35 e_X11_fly_0.2.2.2.2.1 (by decide) (kb_r _) (fun q => ?_) (fun q => ?_)
  · replace h := h.1 (kb_f q)
    refine R_aload_n e_X11_fly_1.2.2.2.2.2.2.2.1 0 rfl ?_
    refine R_iconst e_X11_fly_1.2.2.2.2.2.2.2.2.1 ?_
    refine R_callV (mc := 0) (ms := 0) (mc' := 0) (ms' := 0) (M' := M_X11_deny) (d' := 0) (as := [vI 1]) (st := []) 11 1 e_X11_fly_1.2.2.2.2.2.2.2.2.2 (kCVof m_X11_deny l_X11_132) rfl (by decide) kx_0 (by decide) (by decide) rfl rfl (by show (0 : Nat) ≤ 8; decide) ?_
    refine S_X11_deny ?_
    refine R_eqs (st2 := [vI (-1)]) (σ2 := (kup σ 0 0 1)) rfl rfl ?_
    exact R_ireturn e_X11_fly_2.1 rfl h
  · replace h := h.2 (kb_t q)
    refine R_aload_n e_X11_fly_0.2.2.2.2.2.1 0 rfl ?_
    refine R_getA 11 7 5 e_X11_fly_0.2.2.2.2.2.2.1 f_X11_43 kx_0 (fun _ _ => rfl) rx_0_7 (by decide) ?_
    refine R_iload_n e_X11_fly_0.2.2.2.2.2.2.2.1 2 rfl ?_
    refine R_iload_n e_X11_fly_0.2.2.2.2.2.2.2.2.1 3 rfl ?_
    obtain ⟨q8, h⟩ := h
    refine R_callV (mc := 0) (ms := 0) (mc' := 0) (ms' := 0) (M' := M_X0_hasField) (d' := 1) (as := [vI l2, vI l3]) (st := []) 0 2 e_X11_fly_0.2.2.2.2.2.2.2.2.2 (kCVof m_X0_hasField l_X11_321) rfl (by decide) (kC_self isC_5) (by decide) (by decide) rfl rfl (by show (0 : Nat) ≤ 8; decide) ?_
    refine Run.mono (P_X0_hasField isC_5 q8) (fun rr ss e => ?_)
    obtain ⟨e1, e2⟩ := e
    refine R_eqs (st2 := [vI (kb (sFld v (l2) (l3)))]) (σ2 := σ) (by rw [e1]; rfl) e2 ?_
    refine R_if_eq 35 e_X11_fly_1.1 (by decide) (kb_r _) (fun q => ?_) (fun q => ?_)
    · replace h := h.1 (kb_f q)
      refine R_aload_n e_X11_fly_1.2.2.2.2.2.2.2.1 0 rfl ?_
      refine R_iconst e_X11_fly_1.2.2.2.2.2.2.2.2.1 ?_
      refine R_callV (mc := 0) (ms := 0) (mc' := 0) (ms' := 0) (M' := M_X11_deny) (d' := 0) (as := [vI 1]) (st := []) 11 1 e_X11_fly_1.2.2.2.2.2.2.2.2.2 (kCVof m_X11_deny l_X11_132) rfl (by decide) kx_0 (by decide) (by decide) rfl rfl (by show (0 : Nat) ≤ 8; decide) ?_
      refine S_X11_deny ?_
      refine R_eqs (st2 := [vI (-1)]) (σ2 := (kup σ 0 0 1)) rfl rfl ?_
      exact R_ireturn e_X11_fly_2.1 rfl h
    · replace h := h.2 (kb_t q)
      refine R_iload e_X11_fly_1.2.1 4 rfl ?_
      refine R_iconst e_X11_fly_1.2.2.1 ?_
      obtain ⟨q11, h⟩ := h
      refine R_icmp_lt 35 e_X11_fly_1.2.2.2.1 (by decide) q11 (by decide) (fun q => ?_) (fun q => ?_)
      · replace h := h.1 q
        refine R_aload_n e_X11_fly_1.2.2.2.2.2.2.2.1 0 rfl ?_
        refine R_iconst e_X11_fly_1.2.2.2.2.2.2.2.2.1 ?_
        refine R_callV (mc := 0) (ms := 0) (mc' := 0) (ms' := 0) (M' := M_X11_deny) (d' := 0) (as := [vI 1]) (st := []) 11 1 e_X11_fly_1.2.2.2.2.2.2.2.2.2 (kCVof m_X11_deny l_X11_132) rfl (by decide) kx_0 (by decide) (by decide) rfl rfl (by show (0 : Nat) ≤ 8; decide) ?_
        refine S_X11_deny ?_
        refine R_eqs (st2 := [vI (-1)]) (σ2 := (kup σ 0 0 1)) rfl rfl ?_
        exact R_ireturn e_X11_fly_2.1 rfl h
      · replace h := h.2 q
        refine R_iload e_X11_fly_1.2.2.2.2.1 4 rfl ?_
        refine R_iconst e_X11_fly_1.2.2.2.2.2.1 ?_
        refine R_icmp_le 41 e_X11_fly_1.2.2.2.2.2.2.1 (by decide) q11 (by decide) (fun q => ?_) (fun q => ?_)
        · replace h := h.1 q
          refine R_aload_n e_X11_fly_2.2.1 0 rfl ?_
          refine R_getA 11 8 31 e_X11_fly_2.2.2.1 f_X11_47 kx_0 (fun _ _ => rfl) rx_0_8 (by decide) ?_
          refine R_aload_n e_X11_fly_2.2.2.2.1 0 rfl ?_
          refine R_getA 11 7 5 e_X11_fly_2.2.2.2.2.1 f_X11_43 kx_0 (fun _ _ => rfl) rx_0_7 (by decide) ?_
          refine R_callV (mc := 0) (ms := 0) (mc' := 0) (ms' := 0) (M' := M_X0_copy) (d' := 1) (as := [vA G 5]) (st := []) 0 1 e_X11_fly_2.2.2.2.2.2.1 (kCVof m_X0_copy l_X11_167) rfl (by decide) (kC_self isC_31) (by decide) (by decide) rfl rfl (by show (0 : Nat) ≤ 8; decide) ?_
          refine Run.mono h (fun r14 s15 h => ?_)
          refine R_eqs (st2 := []) rfl rfl ?_
          refine R_aload_n e_X11_fly_2.2.2.2.2.2.2.1 0 rfl ?_
          refine R_getA 11 15 82 e_X11_fly_2.2.2.2.2.2.2.2.1 f_X11_93 kx_0 (fun _ _ => rfl) rx_0_15 (by decide) ?_
          refine R_iload_n e_X11_fly_2.2.2.2.2.2.2.2.2.1 1 rfl ?_
          refine R_iload_n e_X11_fly_2.2.2.2.2.2.2.2.2.2 2 rfl ?_
          refine R_iload_n e_X11_fly_3.1 3 rfl ?_
          refine R_iload e_X11_fly_3.2.1 4 rfl ?_
          refine R_callV (mc := 0) (ms := 0) (mc' := 0) (ms' := 0) (M' := M_X5_seekFlight) (d' := 21) (as := [vI l1, vI l2, vI l3, vI l4]) (st := []) 5 4 e_X11_fly_3.2.2.1 (kCVof m_X5_seekFlight l_X11_393) rfl (by decide) kx_82 (by decide) (by decide) rfl rfl (by show (0 : Nat) ≤ 8; decide) ?_
          refine Run.mono h (fun r16 s17 h => ?_)
          refine R_eqs (st2 := []) rfl rfl ?_
          refine R_aload_n e_X11_fly_3.2.2.2.1 0 rfl ?_
          refine R_aload_n e_X11_fly_3.2.2.2.2.1 0 rfl ?_
          refine R_getA 11 15 82 e_X11_fly_3.2.2.2.2.2.1 f_X11_93 kx_0 (fun _ _ => rfl) rx_0_15 (by decide) ?_
          refine R_getI 5 7 7 e_X11_fly_3.2.2.2.2.2.2.1 f_X11_397 kx_82 (fun _ _ => rfl) rfl ?_
          refine R_callV (mc := 0) (ms := 0) (mc' := 0) (ms' := 0) (M' := M_X11_give) (d' := 0) (as := [vI (s17 82 7)]) (st := []) 11 1 e_X11_fly_3.2.2.2.2.2.2.2.1 (kCVof m_X11_give l_X11_176) rfl (by decide) kx_0 (by decide) (by decide) rfl rfl (by show (0 : Nat) ≤ 8; decide) ?_
          refine S_X11_give ?_
          refine R_eqs (st2 := [vI (s17 82 7)]) (σ2 := (kup s17 0 0 0)) rfl rfl ?_
          exact R_ireturn e_X11_fly_3.2.2.2.2.2.2.2.2 rfl h
        · replace h := h.2 q
          refine R_aload_n e_X11_fly_1.2.2.2.2.2.2.2.1 0 rfl ?_
          refine R_iconst e_X11_fly_1.2.2.2.2.2.2.2.2.1 ?_
          refine R_callV (mc := 0) (ms := 0) (mc' := 0) (ms' := 0) (M' := M_X11_deny) (d' := 0) (as := [vI 1]) (st := []) 11 1 e_X11_fly_1.2.2.2.2.2.2.2.2.2 (kCVof m_X11_deny l_X11_132) rfl (by decide) kx_0 (by decide) (by decide) rfl rfl (by show (0 : Nat) ≤ 8; decide) ?_
          refine S_X11_deny ?_
          refine R_eqs (st2 := [vI (-1)]) (σ2 := (kup σ 0 0 1)) rfl rfl ?_
          exact R_ireturn e_X11_fly_2.1 rfl h
/-! KiteLand.flyAt(I)I -/
theorem e_X11_flyAt_0 : decode cX11_flyAt 0 = .ok (.iload_n 1, 1) ∧ decode cX11_flyAt 1 = .ok (.ifCond .ge 9, 3) ∧ decode cX11_flyAt 4 = .ok (.aload_n 0, 1) ∧ decode cX11_flyAt 5 = .ok (.iconst 1, 1) ∧ decode cX11_flyAt 6 = .ok (.invokevirtual 132, 3) ∧ decode cX11_flyAt 9 = .ok (.ireturn, 1) ∧ decode cX11_flyAt 10 = .ok (.iload_n 1, 1) ∧ decode cX11_flyAt 11 = .ok (.aload_n 0, 1) ∧ decode cX11_flyAt 12 = .ok (.getfield 93, 3) ∧ decode cX11_flyAt 15 = .ok (.getfield 400, 3) := by decide +kernel
theorem e_X11_flyAt_1 : decode cX11_flyAt 18 = .ok (.if_icmp .lt 12, 3) ∧ decode cX11_flyAt 21 = .ok (.aload_n 0, 1) ∧ decode cX11_flyAt 22 = .ok (.bipush 6, 2) ∧ decode cX11_flyAt 24 = .ok (.invokevirtual 132, 3) ∧ decode cX11_flyAt 27 = .ok (.goto 16, 3) ∧ decode cX11_flyAt 30 = .ok (.aload_n 0, 1) ∧ decode cX11_flyAt 31 = .ok (.aload_n 0, 1) ∧ decode cX11_flyAt 32 = .ok (.getfield 93, 3) ∧ decode cX11_flyAt 35 = .ok (.getfield 403, 3) ∧ decode cX11_flyAt 38 = .ok (.iload_n 1, 1) := by decide +kernel
theorem e_X11_flyAt_2 : decode cX11_flyAt 39 = .ok (.iaload, 1) ∧ decode cX11_flyAt 40 = .ok (.invokevirtual 176, 3) ∧ decode cX11_flyAt 43 = .ok (.ireturn, 1) := by decide +kernel
theorem S_X11_flyAt {G : Kg} {σ : Kmem} {Q : Int → Kmem → Prop} {l1 : Int}  (h : (rI l1) ∧ ((0 ≤ l1 → (rI (σ 82 6)) ∧ ((l1 < σ 82 6 → (0 ≤ l1 ∧ l1 < 5) ∧ Q (σ 84 l1) (kup σ 0 0 0)) ∧ (σ 82 6 ≤ l1 → Q (-1) (kup σ 0 0 6)))) ∧ (l1 < 0 → Q (-1) (kup σ 0 0 1)))) : Run G WX M_X11_flyAt 1 0 0 [vA G 0, vI l1] σ Q := by
  refine Run.of (by decide +kernel) (by show (2 : Nat) ≤ 2; decide) ?_
  show Ex G WX M_X11_flyAt 1 0 0 0 [(0, vA G 0), (1, vI l1)] [] σ Q
  refine R_iload_n e_X11_flyAt_0.1 1 rfl ?_
  obtain ⟨q1, h⟩ := h
  refine R_if_ge 10 e_X11_flyAt_0.2.1 (by decide) q1  (fun q => ?_) (fun q => ?_)
  · replace h := h.1 q
    refine R_iload_n e_X11_flyAt_0.2.2.2.2.2.2.1 1 rfl ?_
    refine R_aload_n e_X11_flyAt_0.2.2.2.2.2.2.2.1 0 rfl ?_
    refine R_getA 11 15 82 e_X11_flyAt_0.2.2.2.2.2.2.2.2.1 f_X11_93 kx_0 (fun _ _ => rfl) rx_0_15 (by decide) ?_
    refine R_getI 5 6 6 e_X11_flyAt_0.2.2.2.2.2.2.2.2.2 f_X11_400 kx_82 (fun _ _ => rfl) rfl ?_
    obtain ⟨q2, h⟩ := h
    refine R_icmp_lt 30 e_X11_flyAt_1.1 (by decide) q1 q2 (fun q => ?_) (fun q => ?_)
    · replace h := h.1 q
      refine R_aload_n e_X11_flyAt_1.2.2.2.2.2.1 0 rfl ?_
      refine R_aload_n e_X11_flyAt_1.2.2.2.2.2.2.1 0 rfl ?_
      refine R_getA 11 15 82 e_X11_flyAt_1.2.2.2.2.2.2.2.1 f_X11_93 kx_0 (fun _ _ => rfl) rx_0_15 (by decide) ?_
      refine R_getA 5 5 84 e_X11_flyAt_1.2.2.2.2.2.2.2.2.1 f_X11_403 kx_82 (fun _ _ => rfl) rx_82_5 (by decide) ?_
      refine R_iload_n e_X11_flyAt_1.2.2.2.2.2.2.2.2.2 1 rfl ?_
      obtain ⟨q3, h⟩ := h
      refine R_iald 5 e_X11_flyAt_2.1 kxa_84 q3 ?_
      refine R_callV (mc := 0) (ms := 0) (mc' := 0) (ms' := 0) (M' := M_X11_give) (d' := 0) (as := [vI (σ 84 l1)]) (st := []) 11 1 e_X11_flyAt_2.2.1 (kCVof m_X11_give l_X11_176) rfl (by decide) kx_0 (by decide) (by decide) rfl rfl (by show (0 : Nat) ≤ 8; decide) ?_
      refine S_X11_give ?_
      refine R_eqs (st2 := [vI (σ 84 l1)]) (σ2 := (kup σ 0 0 0)) rfl rfl ?_
      exact R_ireturn e_X11_flyAt_2.2.2 rfl h
    · replace h := h.2 q
      refine R_aload_n e_X11_flyAt_1.2.1 0 rfl ?_
      refine R_bipush e_X11_flyAt_1.2.2.1 (by decide) ?_
      refine R_callV (mc := 0) (ms := 0) (mc' := 0) (ms' := 0) (M' := M_X11_deny) (d' := 0) (as := [vI 6]) (st := []) 11 1 e_X11_flyAt_1.2.2.2.1 (kCVof m_X11_deny l_X11_132) rfl (by decide) kx_0 (by decide) (by decide) rfl rfl (by show (0 : Nat) ≤ 8; decide) ?_
      refine S_X11_deny ?_
      refine R_eqs (st2 := [vI (-1)]) (σ2 := (kup σ 0 0 6)) rfl rfl ?_
      refine R_goto 43 e_X11_flyAt_1.2.2.2.2.1 (by decide) ?_
      exact R_ireturn e_X11_flyAt_2.2.2 rfl h
  · replace h := h.2 q
    refine R_aload_n e_X11_flyAt_0.2.2.1 0 rfl ?_
    refine R_iconst e_X11_flyAt_0.2.2.2.1 ?_
    refine R_callV (mc := 0) (ms := 0) (mc' := 0) (ms' := 0) (M' := M_X11_deny) (d' := 0) (as := [vI 1]) (st := []) 11 1 e_X11_flyAt_0.2.2.2.2.1 (kCVof m_X11_deny l_X11_132) rfl (by decide) kx_0 (by decide) (by decide) rfl rfl (by show (0 : Nat) ≤ 8; decide) ?_
    refine S_X11_deny ?_
    refine R_eqs (st2 := [vI (-1)]) (σ2 := (kup σ 0 0 1)) rfl rfl ?_
    exact R_ireturn e_X11_flyAt_0.2.2.2.2.2.1 rfl h
/-! KiteLand.cover(III)I -/
theorem e_X11_cover_0 : decode cX11_cover 0 = .ok (.aload_n 0, 1) ∧ decode cX11_cover 1 = .ok (.iload_n 1, 1) ∧ decode cX11_cover 2 = .ok (.iload_n 2, 1) ∧ decode cX11_cover 3 = .ok (.iload_n 3, 1) ∧ decode cX11_cover 4 = .ok (.invokevirtual 406, 3) ∧ decode cX11_cover 7 = .ok (.istore 4, 2) ∧ decode cX11_cover 9 = .ok (.iload 4, 2) ∧ decode cX11_cover 11 = .ok (.ifCond .ne 20, 3) ∧ decode cX11_cover 14 = .ok (.aload_n 0, 1) ∧ decode cX11_cover 15 = .ok (.aload_n 0, 1) := by decide +kernel
theorem e_X11_cover_1 : decode cX11_cover 16 = .ok (.getfield 93, 3) ∧ decode cX11_cover 19 = .ok (.getfield 410, 3) ∧ decode cX11_cover 22 = .ok (.invokestatic 413, 3) ∧ decode cX11_cover 25 = .ok (.invokevirtual 176, 3) ∧ decode cX11_cover 28 = .ok (.goto 9, 3) ∧ decode cX11_cover 31 = .ok (.aload_n 0, 1) ∧ decode cX11_cover 32 = .ok (.iload 4, 2) ∧ decode cX11_cover 34 = .ok (.invokevirtual 132, 3) ∧ decode cX11_cover 37 = .ok (.ireturn, 1) := by decide +kernel
theorem S_X11_cover {G : Kg} {σ : Kmem} {Q : Int → Kmem → Prop} {l1 l2 l3 : Int}  (h : Run G WX M_X11_coverStatus 4 0 0 [vA G 0, vI l1, vI l2, vI l3] σ (fun r1 s2 => (rI r1) ∧ ((r1 ≠ 0 → Q (-1) (kup s2 0 0 r1)) ∧ (r1 = 0 → Run G WX M_J6_bitCount_0f7a4 0 0 0 [vI (s2 82 14)] s2 (fun r6 s7 => Q r6 (kup s7 0 0 0)))))) : Run G WX M_X11_cover 5 0 0 [vA G 0, vI l1, vI l2, vI l3] σ Q := by
  refine Run.of (by decide +kernel) (by show (4 : Nat) ≤ 5; decide) ?_
  show Ex G WX M_X11_cover 5 0 0 0 [(0, vA G 0), (1, vI l1), (2, vI l2), (3, vI l3)] [] σ Q
  refine R_aload_n e_X11_cover_0.1 0 rfl ?_
  refine R_iload_n e_X11_cover_0.2.1 1 rfl ?_
  refine R_iload_n e_X11_cover_0.2.2.1 2 rfl ?_
  refine R_iload_n e_X11_cover_0.2.2.2.1 3 rfl ?_
  refine R_callV (mc := 0) (ms := 0) (mc' := 0) (ms' := 0) (M' := M_X11_coverStatus) (d' := 4) (as := [vI l1, vI l2, vI l3]) (st := []) 11 3 e_X11_cover_0.2.2.2.2.1 (kCVof m_X11_coverStatus l_X11_406) rfl (by decide) kx_0 (by decide) (by decide) rfl rfl (by show (0 : Nat) ≤ 8; decide) ?_
  refine Run.mono h (fun r1 s2 h => ?_)
  refine R_eqs (st2 := [vI r1]) rfl rfl ?_
  refine R_istore (ls2 := [(4, vI r1), (0, vA G 0), (1, vI l1), (2, vI l2), (3, vI l3)]) e_X11_cover_0.2.2.2.2.2.1 (by decide) rfl ?_
  refine R_iload e_X11_cover_0.2.2.2.2.2.2.1 0 rfl ?_
  obtain ⟨q3, h⟩ := h
  refine R_if_ne 31 e_X11_cover_0.2.2.2.2.2.2.2.1 (by decide) q3  (fun q => ?_) (fun q => ?_)
  · replace h := h.1 q
    refine R_aload_n e_X11_cover_1.2.2.2.2.2.1 1 rfl ?_
    refine R_iload e_X11_cover_1.2.2.2.2.2.2.1 0 rfl ?_
    refine R_callV (mc := 0) (ms := 0) (mc' := 0) (ms' := 0) (M' := M_X11_deny) (d' := 0) (as := [vI r1]) (st := []) 11 1 e_X11_cover_1.2.2.2.2.2.2.2.1 (kCVof m_X11_deny l_X11_132) rfl (by decide) kx_0 (by decide) (by decide) rfl rfl (by show (0 : Nat) ≤ 8; decide) ?_
    refine S_X11_deny ?_
    refine R_eqs (st2 := [vI (-1)]) (σ2 := (kup s2 0 0 r1)) rfl rfl ?_
    exact R_ireturn e_X11_cover_1.2.2.2.2.2.2.2.2 rfl h
  · replace h := h.2 q
    refine R_aload_n e_X11_cover_0.2.2.2.2.2.2.2.2.1 1 rfl ?_
    refine R_aload_n e_X11_cover_0.2.2.2.2.2.2.2.2.2 1 rfl ?_
    refine R_getA 11 15 82 e_X11_cover_1.1 f_X11_93 kx_0 (fun _ _ => rfl) rx_0_15 (by decide) ?_
    refine R_getI 5 14 14 e_X11_cover_1.2.1 f_X11_410 kx_82 (fun _ _ => rfl) rfl ?_
    refine R_callS (mc := 0) (ms := 0) (mc' := 0) (ms' := 0) (M' := M_J6_bitCount_0f7a4) (d' := 0) (as := [vI (s2 82 14)]) (st := [vA G 0]) 1 e_X11_cover_1.2.2.1 (kCSof m_J6_bitCount_0f7a4 l_X11_413) (by decide) (by decide) rfl rfl (by show (1 : Nat) ≤ 8; decide) ?_
    refine Run.mono h (fun r6 s7 h => ?_)
    refine R_eqs (st2 := [vI r6, vA G 0]) rfl rfl ?_
    refine R_callV (mc := 0) (ms := 0) (mc' := 0) (ms' := 0) (M' := M_X11_give) (d' := 0) (as := [vI r6]) (st := []) 11 1 e_X11_cover_1.2.2.2.1 (kCVof m_X11_give l_X11_176) rfl (by decide) kx_0 (by decide) (by decide) rfl rfl (by show (0 : Nat) ≤ 8; decide) ?_
    refine S_X11_give ?_
    refine R_eqs (st2 := [vI r6]) (σ2 := (kup s7 0 0 0)) rfl rfl ?_
    refine R_goto 37 e_X11_cover_1.2.2.2.2.1 (by decide) ?_
    exact R_ireturn e_X11_cover_1.2.2.2.2.2.2.2.2 rfl h
/-! KiteLand.coverSet(III)I -/
theorem e_X11_coverSet_0 : decode cX11_coverSet 0 = .ok (.aload_n 0, 1) ∧ decode cX11_coverSet 1 = .ok (.iload_n 1, 1) ∧ decode cX11_coverSet 2 = .ok (.iload_n 2, 1) ∧ decode cX11_coverSet 3 = .ok (.iload_n 3, 1) ∧ decode cX11_coverSet 4 = .ok (.invokevirtual 406, 3) ∧ decode cX11_coverSet 7 = .ok (.istore 4, 2) ∧ decode cX11_coverSet 9 = .ok (.iload 4, 2) ∧ decode cX11_coverSet 11 = .ok (.ifCond .ne 17, 3) ∧ decode cX11_coverSet 14 = .ok (.aload_n 0, 1) ∧ decode cX11_coverSet 15 = .ok (.aload_n 0, 1) := by decide +kernel
theorem e_X11_coverSet_1 : decode cX11_coverSet 16 = .ok (.getfield 93, 3) ∧ decode cX11_coverSet 19 = .ok (.getfield 410, 3) ∧ decode cX11_coverSet 22 = .ok (.invokevirtual 176, 3) ∧ decode cX11_coverSet 25 = .ok (.goto 9, 3) ∧ decode cX11_coverSet 28 = .ok (.aload_n 0, 1) ∧ decode cX11_coverSet 29 = .ok (.iload 4, 2) ∧ decode cX11_coverSet 31 = .ok (.invokevirtual 132, 3) ∧ decode cX11_coverSet 34 = .ok (.ireturn, 1) := by decide +kernel
theorem S_X11_coverSet {G : Kg} {σ : Kmem} {Q : Int → Kmem → Prop} {l1 l2 l3 : Int}  (h : Run G WX M_X11_coverStatus 4 0 0 [vA G 0, vI l1, vI l2, vI l3] σ (fun r1 s2 => (rI r1) ∧ ((r1 ≠ 0 → Q (-1) (kup s2 0 0 r1)) ∧ (r1 = 0 → Q (s2 82 14) (kup s2 0 0 0))))) : Run G WX M_X11_coverSet 5 0 0 [vA G 0, vI l1, vI l2, vI l3] σ Q := by
  refine Run.of (by decide +kernel) (by show (4 : Nat) ≤ 5; decide) ?_
  show Ex G WX M_X11_coverSet 5 0 0 0 [(0, vA G 0), (1, vI l1), (2, vI l2), (3, vI l3)] [] σ Q
  refine R_aload_n e_X11_coverSet_0.1 0 rfl ?_
  refine R_iload_n e_X11_coverSet_0.2.1 1 rfl ?_
  refine R_iload_n e_X11_coverSet_0.2.2.1 2 rfl ?_
  refine R_iload_n e_X11_coverSet_0.2.2.2.1 3 rfl ?_
  refine R_callV (mc := 0) (ms := 0) (mc' := 0) (ms' := 0) (M' := M_X11_coverStatus) (d' := 4) (as := [vI l1, vI l2, vI l3]) (st := []) 11 3 e_X11_coverSet_0.2.2.2.2.1 (kCVof m_X11_coverStatus l_X11_406) rfl (by decide) kx_0 (by decide) (by decide) rfl rfl (by show (0 : Nat) ≤ 8; decide) ?_
  refine Run.mono h (fun r1 s2 h => ?_)
  refine R_eqs (st2 := [vI r1]) rfl rfl ?_
  refine R_istore (ls2 := [(4, vI r1), (0, vA G 0), (1, vI l1), (2, vI l2), (3, vI l3)]) e_X11_coverSet_0.2.2.2.2.2.1 (by decide) rfl ?_
  refine R_iload e_X11_coverSet_0.2.2.2.2.2.2.1 0 rfl ?_
  obtain ⟨q3, h⟩ := h
  refine R_if_ne 28 e_X11_coverSet_0.2.2.2.2.2.2.2.1 (by decide) q3  (fun q => ?_) (fun q => ?_)
  · replace h := h.1 q
    refine R_aload_n e_X11_coverSet_1.2.2.2.2.1 1 rfl ?_
    refine R_iload e_X11_coverSet_1.2.2.2.2.2.1 0 rfl ?_
    refine R_callV (mc := 0) (ms := 0) (mc' := 0) (ms' := 0) (M' := M_X11_deny) (d' := 0) (as := [vI r1]) (st := []) 11 1 e_X11_coverSet_1.2.2.2.2.2.2.1 (kCVof m_X11_deny l_X11_132) rfl (by decide) kx_0 (by decide) (by decide) rfl rfl (by show (0 : Nat) ≤ 8; decide) ?_
    refine S_X11_deny ?_
    refine R_eqs (st2 := [vI (-1)]) (σ2 := (kup s2 0 0 r1)) rfl rfl ?_
    exact R_ireturn e_X11_coverSet_1.2.2.2.2.2.2.2 rfl h
  · replace h := h.2 q
    refine R_aload_n e_X11_coverSet_0.2.2.2.2.2.2.2.2.1 1 rfl ?_
    refine R_aload_n e_X11_coverSet_0.2.2.2.2.2.2.2.2.2 1 rfl ?_
    refine R_getA 11 15 82 e_X11_coverSet_1.1 f_X11_93 kx_0 (fun _ _ => rfl) rx_0_15 (by decide) ?_
    refine R_getI 5 14 14 e_X11_coverSet_1.2.1 f_X11_410 kx_82 (fun _ _ => rfl) rfl ?_
    refine R_callV (mc := 0) (ms := 0) (mc' := 0) (ms' := 0) (M' := M_X11_give) (d' := 0) (as := [vI (s2 82 14)]) (st := []) 11 1 e_X11_coverSet_1.2.2.1 (kCVof m_X11_give l_X11_176) rfl (by decide) kx_0 (by decide) (by decide) rfl rfl (by show (0 : Nat) ≤ 8; decide) ?_
    refine S_X11_give ?_
    refine R_eqs (st2 := [vI (s2 82 14)]) (σ2 := (kup s2 0 0 0)) rfl rfl ?_
    refine R_goto 34 e_X11_coverSet_1.2.2.2.1 (by decide) ?_
    exact R_ireturn e_X11_coverSet_1.2.2.2.2.2.2.2 rfl h
/-! KiteLand.settle(I)I -/
theorem e_X11_settle_0 : decode cX11_settle 0 = .ok (.iload_n 1, 1) ∧ decode cX11_settle 1 = .ok (.ifCond .lt 9, 3) ∧ decode cX11_settle 4 = .ok (.iload_n 1, 1) ∧ decode cX11_settle 5 = .ok (.bipush 20, 2) ∧ decode cX11_settle 7 = .ok (.if_icmp .le 9, 3) ∧ decode cX11_settle 10 = .ok (.aload_n 0, 1) ∧ decode cX11_settle 11 = .ok (.iconst 1, 1) ∧ decode cX11_settle 12 = .ok (.invokevirtual 132, 3) ∧ decode cX11_settle 15 = .ok (.ireturn, 1) ∧ decode cX11_settle 16 = .ok (.aload_n 0, 1) := by decide +kernel
theorem e_X11_settle_1 : decode cX11_settle 17 = .ok (.getfield 47, 3) ∧ decode cX11_settle 20 = .ok (.aload_n 0, 1) ∧ decode cX11_settle 21 = .ok (.getfield 43, 3) ∧ decode cX11_settle 24 = .ok (.invokevirtual 167, 3) ∧ decode cX11_settle 27 = .ok (.aload_n 0, 1) ∧ decode cX11_settle 28 = .ok (.aload_n 0, 1) ∧ decode cX11_settle 29 = .ok (.getfield 93, 3) ∧ decode cX11_settle 32 = .ok (.iload_n 1, 1) ∧ decode cX11_settle 33 = .ok (.invokevirtual 418, 3) ∧ decode cX11_settle 36 = .ok (.invokevirtual 176, 3) := by decide +kernel
theorem e_X11_settle_2 : decode cX11_settle 39 = .ok (.ireturn, 1) := by decide +kernel
theorem S_X11_settle {G : Kg} {σ : Kmem} {Q : Int → Kmem → Prop} {l1 : Int}  (h : (rI l1) ∧ ((l1 < 0 → Q (-1) (kup σ 0 0 1)) ∧ (0 ≤ l1 → ((l1 ≤ 20 → Run G WX M_X0_copy 1 0 0 [vA G 31, vA G 5] σ (fun r4 s5 => Run G WX M_X5_mostSettled 4 0 0 [vA G 82, vI l1] s5 (fun r6 s7 => Q r6 (kup s7 0 0 0)))) ∧ (20 < l1 → Q (-1) (kup σ 0 0 1)))))) : Run G WX M_X11_settle 5 0 0 [vA G 0, vI l1] σ Q := by
  refine Run.of (by decide +kernel) (by show (2 : Nat) ≤ 2; decide) ?_
  show Ex G WX M_X11_settle 5 0 0 0 [(0, vA G 0), (1, vI l1)] [] σ Q
  refine R_iload_n e_X11_settle_0.1 1 rfl ?_
  obtain ⟨q1, h⟩ := h
  refine R_if_lt 10 e_X11_settle_0.2.1 (by decide) q1  (fun q => ?_) (fun q => ?_)
  · replace h := h.1 q
    refine R_aload_n e_X11_settle_0.2.2.2.2.2.1 0 rfl ?_
    refine R_iconst e_X11_settle_0.2.2.2.2.2.2.1 ?_
    refine R_callV (mc := 0) (ms := 0) (mc' := 0) (ms' := 0) (M' := M_X11_deny) (d' := 0) (as := [vI 1]) (st := []) 11 1 e_X11_settle_0.2.2.2.2.2.2.2.1 (kCVof m_X11_deny l_X11_132) rfl (by decide) kx_0 (by decide) (by decide) rfl rfl (by show (0 : Nat) ≤ 8; decide) ?_
    refine S_X11_deny ?_
    refine R_eqs (st2 := [vI (-1)]) (σ2 := (kup σ 0 0 1)) rfl rfl ?_
    exact R_ireturn e_X11_settle_0.2.2.2.2.2.2.2.2.1 rfl h
  · replace h := h.2 q
    refine R_iload_n e_X11_settle_0.2.2.1 1 rfl ?_
    refine R_bipush e_X11_settle_0.2.2.2.1 (by decide) ?_
    refine R_icmp_le 16 e_X11_settle_0.2.2.2.2.1 (by decide) q1 (by decide) (fun q => ?_) (fun q => ?_)
    · replace h := h.1 q
      refine R_aload_n e_X11_settle_0.2.2.2.2.2.2.2.2.2 0 rfl ?_
      refine R_getA 11 8 31 e_X11_settle_1.1 f_X11_47 kx_0 (fun _ _ => rfl) rx_0_8 (by decide) ?_
      refine R_aload_n e_X11_settle_1.2.1 0 rfl ?_
      refine R_getA 11 7 5 e_X11_settle_1.2.2.1 f_X11_43 kx_0 (fun _ _ => rfl) rx_0_7 (by decide) ?_
      refine R_callV (mc := 0) (ms := 0) (mc' := 0) (ms' := 0) (M' := M_X0_copy) (d' := 1) (as := [vA G 5]) (st := []) 0 1 e_X11_settle_1.2.2.2.1 (kCVof m_X0_copy l_X11_167) rfl (by decide) (kC_self isC_31) (by decide) (by decide) rfl rfl (by show (0 : Nat) ≤ 8; decide) ?_
      refine Run.mono h (fun r4 s5 h => ?_)
      refine R_eqs (st2 := []) rfl rfl ?_
      refine R_aload_n e_X11_settle_1.2.2.2.2.1 0 rfl ?_
      refine R_aload_n e_X11_settle_1.2.2.2.2.2.1 0 rfl ?_
      refine R_getA 11 15 82 e_X11_settle_1.2.2.2.2.2.2.1 f_X11_93 kx_0 (fun _ _ => rfl) rx_0_15 (by decide) ?_
      refine R_iload_n e_X11_settle_1.2.2.2.2.2.2.2.1 1 rfl ?_
      refine R_callV (mc := 0) (ms := 0) (mc' := 0) (ms' := 0) (M' := M_X5_mostSettled) (d' := 4) (as := [vI l1]) (st := [vA G 0]) 5 1 e_X11_settle_1.2.2.2.2.2.2.2.2.1 (kCVof m_X5_mostSettled l_X11_418) rfl (by decide) kx_82 (by decide) (by decide) rfl rfl (by show (1 : Nat) ≤ 8; decide) ?_
      refine Run.mono h (fun r6 s7 h => ?_)
      refine R_eqs (st2 := [vI r6, vA G 0]) rfl rfl ?_
      refine R_callV (mc := 0) (ms := 0) (mc' := 0) (ms' := 0) (M' := M_X11_give) (d' := 0) (as := [vI r6]) (st := []) 11 1 e_X11_settle_1.2.2.2.2.2.2.2.2.2 (kCVof m_X11_give l_X11_176) rfl (by decide) kx_0 (by decide) (by decide) rfl rfl (by show (0 : Nat) ≤ 8; decide) ?_
      refine S_X11_give ?_
      refine R_eqs (st2 := [vI r6]) (σ2 := (kup s7 0 0 0)) rfl rfl ?_
      exact R_ireturn e_X11_settle_2 rfl h
    · replace h := h.2 q
      refine R_aload_n e_X11_settle_0.2.2.2.2.2.1 0 rfl ?_
      refine R_iconst e_X11_settle_0.2.2.2.2.2.2.1 ?_
      refine R_callV (mc := 0) (ms := 0) (mc' := 0) (ms' := 0) (M' := M_X11_deny) (d' := 0) (as := [vI 1]) (st := []) 11 1 e_X11_settle_0.2.2.2.2.2.2.2.1 (kCVof m_X11_deny l_X11_132) rfl (by decide) kx_0 (by decide) (by decide) rfl rfl (by show (0 : Nat) ≤ 8; decide) ?_
      refine S_X11_deny ?_
      refine R_eqs (st2 := [vI (-1)]) (σ2 := (kup σ 0 0 1)) rfl rfl ?_
      exact R_ireturn e_X11_settle_0.2.2.2.2.2.2.2.2.1 rfl h
/-! KiteLand.strip(III)I -/
theorem e_X11_strip_0 : decode cX11_strip 0 = .ok (.aload_n 0, 1) ∧ decode cX11_strip 1 = .ok (.getfield 43, 3) ∧ decode cX11_strip 4 = .ok (.iload_n 1, 1) ∧ decode cX11_strip 5 = .ok (.invokevirtual 238, 3) ∧ decode cX11_strip 8 = .ok (.ifCond .eq 22, 3) ∧ decode cX11_strip 11 = .ok (.aload_n 0, 1) ∧ decode cX11_strip 12 = .ok (.getfield 43, 3) ∧ decode cX11_strip 15 = .ok (.iload_n 2, 1) ∧ decode cX11_strip 16 = .ok (.invokevirtual 421, 3) ∧ decode cX11_strip 19 = .ok (.ifCond .eq 11, 3) := by decide +kernel
theorem e_X11_strip_1 : decode cX11_strip 22 = .ok (.aload_n 0, 1) ∧ decode cX11_strip 23 = .ok (.iload_n 3, 1) ∧ decode cX11_strip 24 = .ok (.invokevirtual 109, 3) ∧ decode cX11_strip 27 = .ok (.ifCond .ne 9, 3) ∧ decode cX11_strip 30 = .ok (.aload_n 0, 1) ∧ decode cX11_strip 31 = .ok (.iconst 1, 1) ∧ decode cX11_strip 32 = .ok (.invokevirtual 132, 3) ∧ decode cX11_strip 35 = .ok (.ireturn, 1) ∧ decode cX11_strip 36 = .ok (.aload_n 0, 1) ∧ decode cX11_strip 37 = .ok (.iload_n 3, 1) := by decide +kernel
theorem e_X11_strip_2 : decode cX11_strip 38 = .ok (.invokevirtual 424, 3) ∧ decode cX11_strip 41 = .ok (.istore 4, 2) ∧ decode cX11_strip 43 = .ok (.iload 4, 2) ∧ decode cX11_strip 45 = .ok (.ifCond .eq 10, 3) ∧ decode cX11_strip 48 = .ok (.aload_n 0, 1) ∧ decode cX11_strip 49 = .ok (.iload 4, 2) ∧ decode cX11_strip 51 = .ok (.invokevirtual 132, 3) ∧ decode cX11_strip 54 = .ok (.ireturn, 1) ∧ decode cX11_strip 55 = .ok (.aload_n 0, 1) ∧ decode cX11_strip 56 = .ok (.getfield 47, 3) := by decide +kernel
theorem e_X11_strip_3 : decode cX11_strip 59 = .ok (.aload_n 0, 1) ∧ decode cX11_strip 60 = .ok (.getfield 43, 3) ∧ decode cX11_strip 63 = .ok (.invokevirtual 167, 3) ∧ decode cX11_strip 66 = .ok (.aload_n 0, 1) ∧ decode cX11_strip 67 = .ok (.getfield 93, 3) ∧ decode cX11_strip 70 = .ok (.iload_n 2, 1) ∧ decode cX11_strip 71 = .ok (.invokevirtual 427, 3) ∧ decode cX11_strip 74 = .ok (.iconst 0, 1) ∧ decode cX11_strip 75 = .ok (.istore 5, 2) ∧ decode cX11_strip 77 = .ok (.iload 5, 2) := by decide +kernel
theorem e_X11_strip_4 : decode cX11_strip 79 = .ok (.aload_n 0, 1) ∧ decode cX11_strip 80 = .ok (.getfield 43, 3) ∧ decode cX11_strip 83 = .ok (.getfield 194, 3) ∧ decode cX11_strip 86 = .ok (.if_icmp .ge 33, 3) ∧ decode cX11_strip 89 = .ok (.aload_n 0, 1) ∧ decode cX11_strip 90 = .ok (.getfield 22, 3) ∧ decode cX11_strip 93 = .ok (.iload_n 3, 1) ∧ decode cX11_strip 94 = .ok (.aaload, 1) ∧ decode cX11_strip 95 = .ok (.iload 5, 2) ∧ decode cX11_strip 97 = .ok (.aload_n 0, 1) := by decide +kernel
theorem e_X11_strip_5 : decode cX11_strip 98 = .ok (.getfield 93, 3) ∧ decode cX11_strip 101 = .ok (.getfield 430, 3) ∧ decode cX11_strip 104 = .ok (.iload_n 1, 1) ∧ decode cX11_strip 105 = .ok (.aaload, 1) ∧ decode cX11_strip 106 = .ok (.iload 5, 2) ∧ decode cX11_strip 108 = .ok (.iaload, 1) ∧ decode cX11_strip 109 = .ok (.i2l, 1) ∧ decode cX11_strip 110 = .ok (.invokevirtual 128, 3) ∧ decode cX11_strip 113 = .ok (.iinc 5 1, 3) ∧ decode cX11_strip 116 = .ok (.goto (-39), 3) := by decide +kernel
theorem e_X11_strip_6 : decode cX11_strip 119 = .ok (.aload_n 0, 1) ∧ decode cX11_strip 120 = .ok (.aload_n 0, 1) ∧ decode cX11_strip 121 = .ok (.getfield 43, 3) ∧ decode cX11_strip 124 = .ok (.getfield 194, 3) ∧ decode cX11_strip 127 = .ok (.invokevirtual 176, 3) ∧ decode cX11_strip 130 = .ok (.ireturn, 1) := by decide +kernel
abbrev E_X11_strip_77 (G : Kg) (l1 l3 l5 : Int) (σ : Kmem) (Q : Int → Kmem → Prop) : Prop := Ex G WX M_X11_strip 5 0 0 77 [(0, vA G 0), (1, vI l1), (3, vI l3), (5, vI l5)] [] σ Q
theorem S_X11_strip {G : Kg} {σ : Kmem} {Q : Int → Kmem → Prop} {l1 l2 l3 : Int} {v : Int → Int}  (h : (wf v ∧ kco σ 5 v ∧ rI (l1)) ∧ ((¬ (sKt v (l1)) → Q (-1) (kup σ 0 0 1)) ∧ ((sKt v (l1)) → (wf v ∧ kco σ 5 v ∧ rI (l2)) ∧ ((¬ ((0 : Int) ≤ l2 ∧ (l2 : Int) < v 1) → Q (-1) (kup σ 0 0 1)) ∧ (((0 : Int) ≤ l2 ∧ (l2 : Int) < v 1) → (rI (l3)) ∧ ((((0 : Int) ≤ l3 ∧ (l3 : Int) < 4) → Run G WX M_X11_stripTrayStatus 0 0 0 [vA G 0, vI l3] σ (fun r14 s15 => (rI r14) ∧ ((r14 = 0 → Run G WX M_X0_copy 1 0 0 [vA G 31, vA G 5] s15 (fun r17 s18 => Run G WX M_X5_countStrips 4 0 0 [vA G 82, vI l2] s18 (fun r19 s20 => E_X11_strip_77 G l1 l3 0 s20 Q))) ∧ (r14 ≠ 0 → Q (-1) (kup s15 0 0 r14))))) ∧ (¬ ((0 : Int) ≤ l3 ∧ (l3 : Int) < 4) → Q (-1) (kup σ 0 0 1)))))))) : Run G WX M_X11_strip 5 0 0 [vA G 0, vI l1, vI l2, vI l3] σ Q := by
  refine Run.of (by decide +kernel) (by show (4 : Nat) ≤ 6; decide) ?_
  show Ex G WX M_X11_strip 5 0 0 0 [(0, vA G 0), (1, vI l1), (2, vI l2), (3, vI l3)] [] σ Q
  refine R_aload_n e_X11_strip_0.1 0 rfl ?_
  refine R_getA 11 7 5 e_X11_strip_0.2.1 f_X11_43 kx_0 (fun _ _ => rfl) rx_0_7 (by decide) ?_
  refine R_iload_n e_X11_strip_0.2.2.1 1 rfl ?_
  obtain ⟨q3, h⟩ := h
  refine R_callV (mc := 0) (ms := 0) (mc' := 0) (ms' := 0) (M' := M_X0_hasKite) (d' := 0) (as := [vI l1]) (st := []) 0 1 e_X11_strip_0.2.2.2.1 (kCVof m_X0_hasKite l_X11_238) rfl (by decide) (kC_self isC_5) (by decide) (by decide) rfl rfl (by show (0 : Nat) ≤ 8; decide) ?_
  refine Run.mono (P_X0_hasKite isC_5 q3) (fun rr ss e => ?_)
  obtain ⟨e1, e2⟩ := e
  refine R_eqs (st2 := [vI (kb (sKt v (l1)))]) (σ2 := σ) (by rw [e1]; rfl) e2 ?_
  refine R_if_eq 30 e_X11_strip_0.2.2.2.2.1 (by decide) (kb_r _) (fun q => ?_) (fun q => ?_)
  · replace h := h.1 (kb_f q)
    refine R_aload_n e_X11_strip_1.2.2.2.2.1 0 rfl ?_
    refine R_iconst e_X11_strip_1.2.2.2.2.2.1 ?_
    refine R_callV (mc := 0) (ms := 0) (mc' := 0) (ms' := 0) (M' := M_X11_deny) (d' := 0) (as := [vI 1]) (st := []) 11 1 e_X11_strip_1.2.2.2.2.2.2.1 (kCVof m_X11_deny l_X11_132) rfl (by decide) kx_0 (by decide) (by decide) rfl rfl (by show (0 : Nat) ≤ 8; decide) ?_
    refine S_X11_deny ?_
    refine R_eqs (st2 := [vI (-1)]) (σ2 := (kup σ 0 0 1)) rfl rfl ?_
    exact R_ireturn e_X11_strip_1.2.2.2.2.2.2.2.1 rfl h
  · replace h := h.2 (kb_t q)
    refine R_aload_n e_X11_strip_0.2.2.2.2.2.1 0 rfl ?_
    refine R_getA 11 7 5 e_X11_strip_0.2.2.2.2.2.2.1 f_X11_43 kx_0 (fun _ _ => rfl) rx_0_7 (by decide) ?_
    refine R_iload_n e_X11_strip_0.2.2.2.2.2.2.2.1 2 rfl ?_
    obtain ⟨q8, h⟩ := h
    refine R_callV (mc := 0) (ms := 0) (mc' := 0) (ms' := 0) (M' := M_X0_hasRow) (d' := 0) (as := [vI l2]) (st := []) 0 1 e_X11_strip_0.2.2.2.2.2.2.2.2.1 (kCVof m_X0_hasRow l_X11_421) rfl (by decide) (kC_self isC_5) (by decide) (by decide) rfl rfl (by show (0 : Nat) ≤ 8; decide) ?_
    refine Run.mono (P_X0_hasRow isC_5 q8) (fun rr ss e => ?_)
    obtain ⟨e1, e2⟩ := e
    refine R_eqs (st2 := [vI (kb ((0 : Int) ≤ l2 ∧ (l2 : Int) < v 1))]) (σ2 := σ) (by rw [e1]; rfl) e2 ?_
    refine R_if_eq 30 e_X11_strip_0.2.2.2.2.2.2.2.2.2 (by decide) (kb_r _) (fun q => ?_) (fun q => ?_)
    · replace h := h.1 (kb_f q)
      refine R_aload_n e_X11_strip_1.2.2.2.2.1 0 rfl ?_
      refine R_iconst e_X11_strip_1.2.2.2.2.2.1 ?_
      refine R_callV (mc := 0) (ms := 0) (mc' := 0) (ms' := 0) (M' := M_X11_deny) (d' := 0) (as := [vI 1]) (st := []) 11 1 e_X11_strip_1.2.2.2.2.2.2.1 (kCVof m_X11_deny l_X11_132) rfl (by decide) kx_0 (by decide) (by decide) rfl rfl (by show (0 : Nat) ≤ 8; decide) ?_
      refine S_X11_deny ?_
      refine R_eqs (st2 := [vI (-1)]) (σ2 := (kup σ 0 0 1)) rfl rfl ?_
      exact R_ireturn e_X11_strip_1.2.2.2.2.2.2.2.1 rfl h
    · replace h := h.2 (kb_t q)
      refine R_aload_n e_X11_strip_1.1 0 rfl ?_
      refine R_iload_n e_X11_strip_1.2.1 3 rfl ?_
      obtain ⟨q13, h⟩ := h
      refine R_callV (mc := 0) (ms := 0) (mc' := 0) (ms' := 0) (M' := M_X11_isTray) (d' := 0) (as := [vI l3]) (st := []) 11 1 e_X11_strip_1.2.2.1 (kCVof m_X11_isTray l_X11_109) rfl (by decide) kx_0 (by decide) (by decide) rfl rfl (by show (0 : Nat) ≤ 8; decide) ?_
      refine Run.mono (P_X11_isTray q13) (fun rr ss e => ?_)
      obtain ⟨e1, e2⟩ := e
      refine R_eqs (st2 := [vI (kb ((0 : Int) ≤ l3 ∧ (l3 : Int) < 4))]) (σ2 := σ) (by rw [e1]; rfl) e2 ?_
      refine R_if_ne 36 e_X11_strip_1.2.2.2.1 (by decide) (kb_r _) (fun q => ?_) (fun q => ?_)
      · replace h := h.1 (kb_t q)
        refine R_aload_n e_X11_strip_1.2.2.2.2.2.2.2.2.1 0 rfl ?_
        refine R_iload_n e_X11_strip_1.2.2.2.2.2.2.2.2.2 3 rfl ?_
        refine R_callV (mc := 0) (ms := 0) (mc' := 0) (ms' := 0) (M' := M_X11_stripTrayStatus) (d' := 0) (as := [vI l3]) (st := []) 11 1 e_X11_strip_2.1 (kCVof m_X11_stripTrayStatus l_X11_424) rfl (by decide) kx_0 (by decide) (by decide) rfl rfl (by show (0 : Nat) ≤ 8; decide) ?_
        refine Run.mono h (fun r14 s15 h => ?_)
        refine R_eqs (st2 := [vI r14]) rfl rfl ?_
        refine R_istore (ls2 := [(4, vI r14), (0, vA G 0), (1, vI l1), (2, vI l2), (3, vI l3)]) e_X11_strip_2.2.1 (by decide) rfl ?_
        refine R_iload e_X11_strip_2.2.2.1 0 rfl ?_
        obtain ⟨q16, h⟩ := h
        refine R_if_eq 55 e_X11_strip_2.2.2.2.1 (by decide) q16  (fun q => ?_) (fun q => ?_)
        · replace h := h.1 q
          refine R_aload_n e_X11_strip_2.2.2.2.2.2.2.2.2.1 1 rfl ?_
          refine R_getA 11 8 31 e_X11_strip_2.2.2.2.2.2.2.2.2.2 f_X11_47 kx_0 (fun _ _ => rfl) rx_0_8 (by decide) ?_
          refine R_aload_n e_X11_strip_3.1 1 rfl ?_
          refine R_getA 11 7 5 e_X11_strip_3.2.1 f_X11_43 kx_0 (fun _ _ => rfl) rx_0_7 (by decide) ?_
          refine R_callV (mc := 0) (ms := 0) (mc' := 0) (ms' := 0) (M' := M_X0_copy) (d' := 1) (as := [vA G 5]) (st := []) 0 1 e_X11_strip_3.2.2.1 (kCVof m_X0_copy l_X11_167) rfl (by decide) (kC_self isC_31) (by decide) (by decide) rfl rfl (by show (0 : Nat) ≤ 8; decide) ?_
          refine Run.mono h (fun r17 s18 h => ?_)
          refine R_eqs (st2 := []) rfl rfl ?_
          refine R_aload_n e_X11_strip_3.2.2.2.1 1 rfl ?_
          refine R_getA 11 15 82 e_X11_strip_3.2.2.2.2.1 f_X11_93 kx_0 (fun _ _ => rfl) rx_0_15 (by decide) ?_
          refine R_iload_n e_X11_strip_3.2.2.2.2.2.1 3 rfl ?_
          refine R_callV (mc := 0) (ms := 0) (mc' := 0) (ms' := 0) (M' := M_X5_countStrips) (d' := 4) (as := [vI l2]) (st := []) 5 1 e_X11_strip_3.2.2.2.2.2.2.1 (kCVof m_X5_countStrips l_X11_427) rfl (by decide) kx_82 (by decide) (by decide) rfl rfl (by show (0 : Nat) ≤ 8; decide) ?_
          refine Run.mono h (fun r19 s20 h => ?_)
          refine R_eqs (st2 := []) rfl rfl ?_
          refine R_iconst e_X11_strip_3.2.2.2.2.2.2.2.1 ?_
          refine R_istore (ls2 := [(5, vI 0), (4, vI r14), (0, vA G 0), (1, vI l1), (2, vI l2), (3, vI l3)]) e_X11_strip_3.2.2.2.2.2.2.2.2.1 (by decide) rfl ?_
          refine R_ls (ls2 := [(0, vA G 0), (1, vI l1), (3, vI l3), (5, vI 0)]) [2, 3, 5, 0] rfl ?_
          exact h
        · replace h := h.2 q
          refine R_aload_n e_X11_strip_2.2.2.2.2.1 1 rfl ?_
          refine R_iload e_X11_strip_2.2.2.2.2.2.1 0 rfl ?_
          refine R_callV (mc := 0) (ms := 0) (mc' := 0) (ms' := 0) (M' := M_X11_deny) (d' := 0) (as := [vI r14]) (st := []) 11 1 e_X11_strip_2.2.2.2.2.2.2.1 (kCVof m_X11_deny l_X11_132) rfl (by decide) kx_0 (by decide) (by decide) rfl rfl (by show (0 : Nat) ≤ 8; decide) ?_
          refine S_X11_deny ?_
          refine R_eqs (st2 := [vI (-1)]) (σ2 := (kup s15 0 0 r14)) rfl rfl ?_
          exact R_ireturn e_X11_strip_2.2.2.2.2.2.2.2.1 rfl h
      · replace h := h.2 (kb_f q)
        refine R_aload_n e_X11_strip_1.2.2.2.2.1 0 rfl ?_
        refine R_iconst e_X11_strip_1.2.2.2.2.2.1 ?_
        refine R_callV (mc := 0) (ms := 0) (mc' := 0) (ms' := 0) (M' := M_X11_deny) (d' := 0) (as := [vI 1]) (st := []) 11 1 e_X11_strip_1.2.2.2.2.2.2.1 (kCVof m_X11_deny l_X11_132) rfl (by decide) kx_0 (by decide) (by decide) rfl rfl (by show (0 : Nat) ≤ 8; decide) ?_
        refine S_X11_deny ?_
        refine R_eqs (st2 := [vI (-1)]) (σ2 := (kup σ 0 0 1)) rfl rfl ?_
        exact R_ireturn e_X11_strip_1.2.2.2.2.2.2.2.1 rfl h
theorem S_X11_strip_77 {G : Kg} {σ : Kmem} {Q : Int → Kmem → Prop} {l1 l2 l3 l5 : Int}  (h : (rI l5) ∧ (rI (σ 5 0)) ∧ ((σ 5 0 ≤ l5 → Q (σ 5 0) (kup σ 0 0 0)) ∧ (l5 < σ 5 0 → (0 ≤ l3 ∧ l3 < 4) ∧ (0 ≤ l1 ∧ l1 < 6) ∧ (0 ≤ l5 ∧ l5 < 9) ∧ (rI (σ (90 + l1) l5)) ∧ Run G WX M_X10_put 0 0 0 [vA G (adT l3), vI l5, vL (σ (90 + l1) l5)] σ (fun r33 s34 => E_X11_strip_77 G l1 l3 (l5 + 1) s34 Q)))) : E_X11_strip_77 G l1 l3 l5 σ Q := by
  refine R_iload e_X11_strip_3.2.2.2.2.2.2.2.2.2 3 rfl ?_
  refine R_aload_n e_X11_strip_4.1 0 rfl ?_
  refine R_getA 11 7 5 e_X11_strip_4.2.1 f_X11_43 kx_0 (fun _ _ => rfl) rx_0_7 (by decide) ?_
  refine R_getI 0 0 0 e_X11_strip_4.2.2.1 f_X11_194 (kC_self isC_5) (fun _ _ => rfl) rfl ?_
  obtain ⟨q25, h⟩ := h
  obtain ⟨q26, h⟩ := h
  refine R_icmp_ge 119 e_X11_strip_4.2.2.2.1 (by decide) q25 q26 (fun q => ?_) (fun q => ?_)
  · replace h := h.1 q
    refine R_aload_n e_X11_strip_6.1 0 rfl ?_
    refine R_aload_n e_X11_strip_6.2.1 0 rfl ?_
    refine R_getA 11 7 5 e_X11_strip_6.2.2.1 f_X11_43 kx_0 (fun _ _ => rfl) rx_0_7 (by decide) ?_
    refine R_getI 0 0 0 e_X11_strip_6.2.2.2.1 f_X11_194 (kC_self isC_5) (fun _ _ => rfl) rfl ?_
    refine R_callV (mc := 0) (ms := 0) (mc' := 0) (ms' := 0) (M' := M_X11_give) (d' := 0) (as := [vI (σ 5 0)]) (st := []) 11 1 e_X11_strip_6.2.2.2.2.1 (kCVof m_X11_give l_X11_176) rfl (by decide) kx_0 (by decide) (by decide) rfl rfl (by show (0 : Nat) ≤ 8; decide) ?_
    refine S_X11_give ?_
    refine R_eqs (st2 := [vI (σ 5 0)]) (σ2 := (kup σ 0 0 0)) rfl rfl ?_
    exact R_ireturn e_X11_strip_6.2.2.2.2.2 rfl h
  · replace h := h.2 q
    refine R_aload_n e_X11_strip_4.2.2.2.2.1 0 rfl ?_
    refine R_getA 11 3 1 e_X11_strip_4.2.2.2.2.2.1 f_X11_22 kx_0 (fun _ _ => rfl) rx_0_3 (by decide) ?_
    refine R_iload_n e_X11_strip_4.2.2.2.2.2.2.1 2 rfl ?_
    obtain ⟨q29, h⟩ := h
    refine R_aald 24 4 (adT l3) e_X11_strip_4.2.2.2.2.2.2.2.1 (by decide) kxa_1 q29 (adT_at q29) (adT_n q29) ?_
    refine R_iload e_X11_strip_4.2.2.2.2.2.2.2.2.1 3 rfl ?_
    refine R_aload_n e_X11_strip_4.2.2.2.2.2.2.2.2.2 0 rfl ?_
    refine R_getA 11 15 82 e_X11_strip_5.1 f_X11_93 kx_0 (fun _ _ => rfl) rx_0_15 (by decide) ?_
    refine R_getA 5 17 89 e_X11_strip_5.2.1 f_X11_430 kx_82 (fun _ _ => rfl) rx_82_17 (by decide) ?_
    refine R_iload_n e_X11_strip_5.2.2.1 1 rfl ?_
    obtain ⟨q30, h⟩ := h
    refine R_aald2 6 (90 + l1) e_X11_strip_5.2.2.2.1 kxa_89 q30 (adP_at q30) (adP_n q30) ?_
    refine R_iload e_X11_strip_5.2.2.2.2.1 3 rfl ?_
    obtain ⟨q31, h⟩ := h
    refine R_iald 9 e_X11_strip_5.2.2.2.2.2.1 (adP_ar q30) q31 ?_
    obtain ⟨q32, h⟩ := h
    refine R_i2l e_X11_strip_5.2.2.2.2.2.2.1 q32 ?_
    refine R_callV (mc := 0) (ms := 0) (mc' := 0) (ms' := 0) (M' := M_X10_put) (d' := 0) (as := [vI l5, vL (σ (90 + l1) l5)]) (st := []) 10 2 e_X11_strip_5.2.2.2.2.2.2.2.1 (kCVof m_X10_put l_X11_128) rfl (by decide) (kT_self (adT_is q29)) (by decide) (by decide) rfl rfl (by show (0 : Nat) ≤ 8; decide) ?_
    refine Run.mono h (fun r33 s34 h => ?_)
    refine R_eqs (st2 := []) rfl rfl ?_
    refine R_iinc (ls2 := [(5, vI (l5 + 1)), (0, vA G 0), (1, vI l1), (3, vI l3)]) e_X11_strip_5.2.2.2.2.2.2.2.2.1 3 rfl (by decide) rfl ?_
    refine R_goto 77 e_X11_strip_5.2.2.2.2.2.2.2.2.2 (by decide) ?_
    refine R_ls (ls2 := [(0, vA G 0), (1, vI l1), (3, vI l3), (5, vI (l5 + 1))]) [1, 2, 3, 0] rfl ?_
    exact h
