/-! KiteLand.stands(III)I -/
theorem e_X11_stands_0 : decode cX11_stands 0 = .ok (.aload_n 0, 1) ∧ decode cX11_stands 1 = .ok (.getfield 43, 3) ∧ decode cX11_stands 4 = .ok (.iload_n 1, 1) ∧ decode cX11_stands 5 = .ok (.invokevirtual 238, 3) ∧ decode cX11_stands 8 = .ok (.ifCond .eq 20, 3) ∧ decode cX11_stands 11 = .ok (.aload_n 0, 1) ∧ decode cX11_stands 12 = .ok (.iload_n 2, 1) ∧ decode cX11_stands 13 = .ok (.invokevirtual 228, 3) ∧ decode cX11_stands 16 = .ok (.ifCond .eq 12, 3) ∧ decode cX11_stands 19 = .ok (.iload_n 3, 1) := by decide +kernel
theorem e_X11_stands_1 : decode cX11_stands 20 = .ok (.ifCond .lt 8, 3) ∧ decode cX11_stands 23 = .ok (.iload_n 3, 1) ∧ decode cX11_stands 24 = .ok (.iconst 1, 1) ∧ decode cX11_stands 25 = .ok (.if_icmp .le 9, 3) ∧ decode cX11_stands 28 = .ok (.aload_n 0, 1) ∧ decode cX11_stands 29 = .ok (.iconst 1, 1) ∧ decode cX11_stands 30 = .ok (.invokevirtual 132, 3) ∧ decode cX11_stands 33 = .ok (.ireturn, 1) ∧ decode cX11_stands 34 = .ok (.aload_n 0, 1) ∧ decode cX11_stands 35 = .ok (.getfield 64, 3) := by decide +kernel
theorem e_X11_stands_2 : decode cX11_stands 38 = .ok (.aload_n 0, 1) ∧ decode cX11_stands 39 = .ok (.getfield 43, 3) ∧ decode cX11_stands 42 = .ok (.iload_n 2, 1) ∧ decode cX11_stands 43 = .ok (.invokevirtual 308, 3) ∧ decode cX11_stands 46 = .ok (.aload_n 0, 1) ∧ decode cX11_stands 47 = .ok (.getfield 64, 3) ∧ decode cX11_stands 50 = .ok (.iload_n 1, 1) ∧ decode cX11_stands 51 = .ok (.invokevirtual 312, 3) ∧ decode cX11_stands 54 = .ok (.ifCond .ne 10, 3) ∧ decode cX11_stands 57 = .ok (.aload_n 0, 1) := by decide +kernel
theorem e_X11_stands_3 : decode cX11_stands 58 = .ok (.bipush 6, 2) ∧ decode cX11_stands 60 = .ok (.invokevirtual 132, 3) ∧ decode cX11_stands 63 = .ok (.ireturn, 1) ∧ decode cX11_stands 64 = .ok (.aload_n 0, 1) ∧ decode cX11_stands 65 = .ok (.iload_n 3, 1) ∧ decode cX11_stands 66 = .ok (.ifCond .ne 15, 3) ∧ decode cX11_stands 69 = .ok (.aload_n 0, 1) ∧ decode cX11_stands 70 = .ok (.getfield 64, 3) ∧ decode cX11_stands 73 = .ok (.getfield 315, 3) ∧ decode cX11_stands 76 = .ok (.iload_n 1, 1) := by decide +kernel
theorem e_X11_stands_4 : decode cX11_stands 77 = .ok (.iaload, 1) ∧ decode cX11_stands 78 = .ok (.goto 12, 3) ∧ decode cX11_stands 81 = .ok (.aload_n 0, 1) ∧ decode cX11_stands 82 = .ok (.getfield 64, 3) ∧ decode cX11_stands 85 = .ok (.getfield 318, 3) ∧ decode cX11_stands 88 = .ok (.iload_n 1, 1) ∧ decode cX11_stands 89 = .ok (.iaload, 1) ∧ decode cX11_stands 90 = .ok (.invokevirtual 176, 3) ∧ decode cX11_stands 93 = .ok (.ireturn, 1) := by decide +kernel
theorem S_X11_stands {G : Kg} {σ : Kmem} {Q : Int → Kmem → Prop} {l1 l2 l3 : Int} {v : Int → Int}  (h : (wf v ∧ kco σ 5 v ∧ rI (l1)) ∧ ((¬ (sKt v (l1)) → Q (-1) (kup σ 0 0 1)) ∧ ((sKt v (l1)) → (rI (l2)) ∧ ((¬ (sHr (l2)) → Q (-1) (kup σ 0 0 1)) ∧ ((sHr (l2)) → (rI l3) ∧ ((l3 < 0 → Q (-1) (kup σ 0 0 1)) ∧ (0 ≤ l3 → ((l3 ≤ 1 → Run G WX M_X8_look 3 0 0 [vA G 58, vA G 5, vI l2] σ (fun r14 s15 => Run G WX M_X8_isUp 0 0 0 [vA G 58, vI l1] s15 (fun r16 s17 => (rI r16) ∧ ((r16 ≠ 0 → ((l3 ≠ 0 → (0 ≤ l1 ∧ l1 < 6) ∧ Q (s17 60 l1) (kup s17 0 0 0)) ∧ (l3 = 0 → (0 ≤ l1 ∧ l1 < 6) ∧ Q (s17 59 l1) (kup s17 0 0 0)))) ∧ (r16 = 0 → Q (-1) (kup s17 0 0 6)))))) ∧ (1 < l3 → Q (-1) (kup σ 0 0 1)))))))))) : Run G WX M_X11_stands 4 0 0 [vA G 0, vI l1, vI l2, vI l3] σ Q := by
  refine Run.of (by decide +kernel) (by show (4 : Nat) ≤ 4; decide) ?_
  show Ex G WX M_X11_stands 4 0 0 0 [(0, vA G 0), (1, vI l1), (2, vI l2), (3, vI l3)] [] σ Q
  refine R_aload_n e_X11_stands_0.1 0 rfl ?_
  refine R_getA 11 7 5 e_X11_stands_0.2.1 f_X11_43 kx_0 (fun _ _ => rfl) rx_0_7 (by decide) ?_
  refine R_iload_n e_X11_stands_0.2.2.1 1 rfl ?_
  obtain ⟨q3, h⟩ := h
  refine R_callV (mc := 0) (ms := 0) (mc' := 0) (ms' := 0) (M' := M_X0_hasKite) (d' := 0) (as := [vI l1]) (st := []) 0 1 e_X11_stands_0.2.2.2.1 (kCVof m_X0_hasKite l_X11_238) rfl (by decide) (kC_self isC_5) (by decide) (by decide) rfl rfl (by show (0 : Nat) ≤ 8; decide) ?_
  refine Run.mono (P_X0_hasKite isC_5 q3) (fun rr ss e => ?_)
  obtain ⟨e1, e2⟩ := e
  refine R_eqs (st2 := [vI (kb (sKt v (l1)))]) (σ2 := σ) (by rw [e1]; rfl) e2 ?_
  refine R_if_eq 28 e_X11_stands_0.2.2.2.2.1 (by decide) (kb_r _) (fun q => ?_) (fun q => ?_)
  · replace h := h.1 (kb_f q)
    refine R_aload_n e_X11_stands_1.2.2.2.2.1 0 rfl ?_
    refine R_iconst e_X11_stands_1.2.2.2.2.2.1 ?_
    refine R_callV (mc := 0) (ms := 0) (mc' := 0) (ms' := 0) (M' := M_X11_deny) (d' := 0) (as := [vI 1]) (st := []) 11 1 e_X11_stands_1.2.2.2.2.2.2.1 (kCVof m_X11_deny l_X11_132) rfl (by decide) kx_0 (by decide) (by decide) rfl rfl (by show (0 : Nat) ≤ 8; decide) ?_
    refine S_X11_deny ?_
    refine R_eqs (st2 := [vI (-1)]) (σ2 := (kup σ 0 0 1)) rfl rfl ?_
    exact R_ireturn e_X11_stands_1.2.2.2.2.2.2.2.1 rfl h
  · replace h := h.2 (kb_t q)
    refine R_aload_n e_X11_stands_0.2.2.2.2.2.1 0 rfl ?_
    refine R_iload_n e_X11_stands_0.2.2.2.2.2.2.1 2 rfl ?_
    obtain ⟨q8, h⟩ := h
    refine R_callV (mc := 0) (ms := 0) (mc' := 0) (ms' := 0) (M' := M_X11_isHourOfDay) (d' := 0) (as := [vI l2]) (st := []) 11 1 e_X11_stands_0.2.2.2.2.2.2.2.1 (kCVof m_X11_isHourOfDay l_X11_228) rfl (by decide) kx_0 (by decide) (by decide) rfl rfl (by show (0 : Nat) ≤ 8; decide) ?_
    refine Run.mono (P_X11_isHourOfDay q8) (fun rr ss e => ?_)
    obtain ⟨e1, e2⟩ := e
    refine R_eqs (st2 := [vI (kb (sHr (l2)))]) (σ2 := σ) (by rw [e1]; rfl) e2 ?_
    refine R_if_eq 28 e_X11_stands_0.2.2.2.2.2.2.2.2.1 (by decide) (kb_r _) (fun q => ?_) (fun q => ?_)
    · replace h := h.1 (kb_f q)
      refine R_aload_n e_X11_stands_1.2.2.2.2.1 0 rfl ?_
      refine R_iconst e_X11_stands_1.2.2.2.2.2.1 ?_
      refine R_callV (mc := 0) (ms := 0) (mc' := 0) (ms' := 0) (M' := M_X11_deny) (d' := 0) (as := [vI 1]) (st := []) 11 1 e_X11_stands_1.2.2.2.2.2.2.1 (kCVof m_X11_deny l_X11_132) rfl (by decide) kx_0 (by decide) (by decide) rfl rfl (by show (0 : Nat) ≤ 8; decide) ?_
      refine S_X11_deny ?_
      refine R_eqs (st2 := [vI (-1)]) (σ2 := (kup σ 0 0 1)) rfl rfl ?_
      exact R_ireturn e_X11_stands_1.2.2.2.2.2.2.2.1 rfl h
    · replace h := h.2 (kb_t q)
      refine R_iload_n e_X11_stands_0.2.2.2.2.2.2.2.2.2 3 rfl ?_
      obtain ⟨q11, h⟩ := h
      refine R_if_lt 28 e_X11_stands_1.1 (by decide) q11  (fun q => ?_) (fun q => ?_)
      · replace h := h.1 q
        refine R_aload_n e_X11_stands_1.2.2.2.2.1 0 rfl ?_
        refine R_iconst e_X11_stands_1.2.2.2.2.2.1 ?_
        refine R_callV (mc := 0) (ms := 0) (mc' := 0) (ms' := 0) (M' := M_X11_deny) (d' := 0) (as := [vI 1]) (st := []) 11 1 e_X11_stands_1.2.2.2.2.2.2.1 (kCVof m_X11_deny l_X11_132) rfl (by decide) kx_0 (by decide) (by decide) rfl rfl (by show (0 : Nat) ≤ 8; decide) ?_
        refine S_X11_deny ?_
        refine R_eqs (st2 := [vI (-1)]) (σ2 := (kup σ 0 0 1)) rfl rfl ?_
        exact R_ireturn e_X11_stands_1.2.2.2.2.2.2.2.1 rfl h
      · replace h := h.2 q
        refine R_iload_n e_X11_stands_1.2.1 3 rfl ?_
        refine R_iconst e_X11_stands_1.2.2.1 ?_
        refine R_icmp_le 34 e_X11_stands_1.2.2.2.1 (by decide) q11 (by decide) (fun q => ?_) (fun q => ?_)
        · replace h := h.1 q
          refine R_aload_n e_X11_stands_1.2.2.2.2.2.2.2.2.1 0 rfl ?_
          refine R_getA 11 10 58 e_X11_stands_1.2.2.2.2.2.2.2.2.2 f_X11_64 kx_0 (fun _ _ => rfl) rx_0_10 (by decide) ?_
          refine R_aload_n e_X11_stands_2.1 0 rfl ?_
          refine R_getA 11 7 5 e_X11_stands_2.2.1 f_X11_43 kx_0 (fun _ _ => rfl) rx_0_7 (by decide) ?_
          refine R_iload_n e_X11_stands_2.2.2.1 2 rfl ?_
          refine R_callV (mc := 0) (ms := 0) (mc' := 0) (ms' := 0) (M' := M_X8_look) (d' := 3) (as := [vA G 5, vI l2]) (st := []) 8 2 e_X11_stands_2.2.2.2.1 (kCVof m_X8_look l_X11_308) rfl (by decide) kx_58 (by decide) (by decide) rfl rfl (by show (0 : Nat) ≤ 8; decide) ?_
          refine Run.mono h (fun r14 s15 h => ?_)
          refine R_eqs (st2 := []) rfl rfl ?_
          refine R_aload_n e_X11_stands_2.2.2.2.2.1 0 rfl ?_
          refine R_getA 11 10 58 e_X11_stands_2.2.2.2.2.2.1 f_X11_64 kx_0 (fun _ _ => rfl) rx_0_10 (by decide) ?_
          refine R_iload_n e_X11_stands_2.2.2.2.2.2.2.1 1 rfl ?_
          refine R_callV (mc := 0) (ms := 0) (mc' := 0) (ms' := 0) (M' := M_X8_isUp) (d' := 0) (as := [vI l1]) (st := []) 8 1 e_X11_stands_2.2.2.2.2.2.2.2.1 (kCVof m_X8_isUp l_X11_312) rfl (by decide) kx_58 (by decide) (by decide) rfl rfl (by show (0 : Nat) ≤ 8; decide) ?_
          refine Run.mono h (fun r16 s17 h => ?_)
          refine R_eqs (st2 := [vI r16]) rfl rfl ?_
          obtain ⟨q18, h⟩ := h
          refine R_if_ne 64 e_X11_stands_2.2.2.2.2.2.2.2.2.1 (by decide) q18  (fun q => ?_) (fun q => ?_)
          · replace h := h.1 q
            refine R_aload_n e_X11_stands_3.2.2.2.1 0 rfl ?_
            refine R_iload_n e_X11_stands_3.2.2.2.2.1 3 rfl ?_
            refine R_if_ne 81 e_X11_stands_3.2.2.2.2.2.1 (by decide) q11  (fun q => ?_) (fun q => ?_)
            · replace h := h.1 q
              refine R_aload_n e_X11_stands_4.2.2.1 0 rfl ?_
              refine R_getA 11 10 58 e_X11_stands_4.2.2.2.1 f_X11_64 kx_0 (fun _ _ => rfl) rx_0_10 (by decide) ?_
              refine R_getA 8 3 60 e_X11_stands_4.2.2.2.2.1 f_X11_318 kx_58 (fun _ _ => rfl) rx_58_3 (by decide) ?_
              refine R_iload_n e_X11_stands_4.2.2.2.2.2.1 1 rfl ?_
              obtain ⟨q19, h⟩ := h
              refine R_iald 6 e_X11_stands_4.2.2.2.2.2.2.1 kxa_60 q19 ?_
              refine R_callV (mc := 0) (ms := 0) (mc' := 0) (ms' := 0) (M' := M_X11_give) (d' := 0) (as := [vI (s17 60 l1)]) (st := []) 11 1 e_X11_stands_4.2.2.2.2.2.2.2.1 (kCVof m_X11_give l_X11_176) rfl (by decide) kx_0 (by decide) (by decide) rfl rfl (by show (0 : Nat) ≤ 8; decide) ?_
              refine S_X11_give ?_
              refine R_eqs (st2 := [vI (s17 60 l1)]) (σ2 := (kup s17 0 0 0)) rfl rfl ?_
              exact R_ireturn e_X11_stands_4.2.2.2.2.2.2.2.2 rfl h
            · replace h := h.2 q
              refine R_aload_n e_X11_stands_3.2.2.2.2.2.2.1 0 rfl ?_
              refine R_getA 11 10 58 e_X11_stands_3.2.2.2.2.2.2.2.1 f_X11_64 kx_0 (fun _ _ => rfl) rx_0_10 (by decide) ?_
              refine R_getA 8 2 59 e_X11_stands_3.2.2.2.2.2.2.2.2.1 f_X11_315 kx_58 (fun _ _ => rfl) rx_58_2 (by decide) ?_
              refine R_iload_n e_X11_stands_3.2.2.2.2.2.2.2.2.2 1 rfl ?_
              obtain ⟨q22, h⟩ := h
              refine R_iald 6 e_X11_stands_4.1 kxa_59 q22 ?_
              refine R_goto 90 e_X11_stands_4.2.1 (by decide) ?_
              refine R_callV (mc := 0) (ms := 0) (mc' := 0) (ms' := 0) (M' := M_X11_give) (d' := 0) (as := [vI (s17 59 l1)]) (st := []) 11 1 e_X11_stands_4.2.2.2.2.2.2.2.1 (kCVof m_X11_give l_X11_176) rfl (by decide) kx_0 (by decide) (by decide) rfl rfl (by show (0 : Nat) ≤ 8; decide) ?_
              refine S_X11_give ?_
              refine R_eqs (st2 := [vI (s17 59 l1)]) (σ2 := (kup s17 0 0 0)) rfl rfl ?_
              exact R_ireturn e_X11_stands_4.2.2.2.2.2.2.2.2 rfl h
          · replace h := h.2 q
            refine R_aload_n e_X11_stands_2.2.2.2.2.2.2.2.2.2 0 rfl ?_
            refine R_bipush e_X11_stands_3.1 (by decide) ?_
            refine R_callV (mc := 0) (ms := 0) (mc' := 0) (ms' := 0) (M' := M_X11_deny) (d' := 0) (as := [vI 6]) (st := []) 11 1 e_X11_stands_3.2.1 (kCVof m_X11_deny l_X11_132) rfl (by decide) kx_0 (by decide) (by decide) rfl rfl (by show (0 : Nat) ≤ 8; decide) ?_
            refine S_X11_deny ?_
            refine R_eqs (st2 := [vI (-1)]) (σ2 := (kup s17 0 0 6)) rfl rfl ?_
            exact R_ireturn e_X11_stands_3.2.2.1 rfl h
        · replace h := h.2 q
          refine R_aload_n e_X11_stands_1.2.2.2.2.1 0 rfl ?_
          refine R_iconst e_X11_stands_1.2.2.2.2.2.1 ?_
          refine R_callV (mc := 0) (ms := 0) (mc' := 0) (ms' := 0) (M' := M_X11_deny) (d' := 0) (as := [vI 1]) (st := []) 11 1 e_X11_stands_1.2.2.2.2.2.2.1 (kCVof m_X11_deny l_X11_132) rfl (by decide) kx_0 (by decide) (by decide) rfl rfl (by show (0 : Nat) ≤ 8; decide) ?_
          refine S_X11_deny ?_
          refine R_eqs (st2 := [vI (-1)]) (σ2 := (kup σ 0 0 1)) rfl rfl ?_
          exact R_ireturn e_X11_stands_1.2.2.2.2.2.2.2.1 rfl h
/-! KiteLand.owner(III)I -/
theorem e_X11_owner_0 : decode cX11_owner 0 = .ok (.aload_n 0, 1) ∧ decode cX11_owner 1 = .ok (.getfield 43, 3) ∧ decode cX11_owner 4 = .ok (.iload_n 1, 1) ∧ decode cX11_owner 5 = .ok (.iload_n 2, 1) ∧ decode cX11_owner 6 = .ok (.invokevirtual 321, 3) ∧ decode cX11_owner 9 = .ok (.ifCond .eq 11, 3) ∧ decode cX11_owner 12 = .ok (.aload_n 0, 1) ∧ decode cX11_owner 13 = .ok (.iload_n 3, 1) ∧ decode cX11_owner 14 = .ok (.invokevirtual 228, 3) ∧ decode cX11_owner 17 = .ok (.ifCond .ne 9, 3) := by decide +kernel
theorem e_X11_owner_1 : decode cX11_owner 20 = .ok (.aload_n 0, 1) ∧ decode cX11_owner 21 = .ok (.iconst 1, 1) ∧ decode cX11_owner 22 = .ok (.invokevirtual 132, 3) ∧ decode cX11_owner 25 = .ok (.ireturn, 1) ∧ decode cX11_owner 26 = .ok (.aload_n 0, 1) ∧ decode cX11_owner 27 = .ok (.getfield 64, 3) ∧ decode cX11_owner 30 = .ok (.aload_n 0, 1) ∧ decode cX11_owner 31 = .ok (.getfield 43, 3) ∧ decode cX11_owner 34 = .ok (.iload_n 3, 1) ∧ decode cX11_owner 35 = .ok (.invokevirtual 308, 3) := by decide +kernel
theorem e_X11_owner_2 : decode cX11_owner 38 = .ok (.aload_n 0, 1) ∧ decode cX11_owner 39 = .ok (.getfield 64, 3) ∧ decode cX11_owner 42 = .ok (.iload_n 1, 1) ∧ decode cX11_owner 43 = .ok (.iload_n 2, 1) ∧ decode cX11_owner 44 = .ok (.invokevirtual 325, 3) ∧ decode cX11_owner 47 = .ok (.istore 4, 2) ∧ decode cX11_owner 49 = .ok (.iload 4, 2) ∧ decode cX11_owner 51 = .ok (.iconst (-1), 1) ∧ decode cX11_owner 52 = .ok (.if_icmp .ne 12, 3) ∧ decode cX11_owner 55 = .ok (.aload_n 0, 1) := by decide +kernel
theorem e_X11_owner_3 : decode cX11_owner 56 = .ok (.bipush 6, 2) ∧ decode cX11_owner 58 = .ok (.invokevirtual 132, 3) ∧ decode cX11_owner 61 = .ok (.goto 9, 3) ∧ decode cX11_owner 64 = .ok (.aload_n 0, 1) ∧ decode cX11_owner 65 = .ok (.iload 4, 2) ∧ decode cX11_owner 67 = .ok (.invokevirtual 176, 3) ∧ decode cX11_owner 70 = .ok (.ireturn, 1) := by decide +kernel
theorem S_X11_owner {G : Kg} {σ : Kmem} {Q : Int → Kmem → Prop} {l1 l2 l3 : Int} {v : Int → Int}  (h : (wf v ∧ kco σ 5 v ∧ rI (l1) ∧ rI (l2)) ∧ ((¬ (sFld v (l1) (l2)) → Q (-1) (kup σ 0 0 1)) ∧ ((sFld v (l1) (l2)) → (rI (l3)) ∧ (((sHr (l3)) → Run G WX M_X8_look 3 0 0 [vA G 58, vA G 5, vI l3] σ (fun r9 s10 => (0 ≤ (l2 * 9) + l1 ∧ (l2 * 9) + l1 < 63) ∧ (rI (s10 63 ((l2 * 9) + l1))) ∧ ((s10 63 ((l2 * 9) + l1) ≠ -1 → Q (s10 63 ((l2 * 9) + l1)) (kup s10 0 0 0)) ∧ (s10 63 ((l2 * 9) + l1) = -1 → Q (-1) (kup s10 0 0 6))))) ∧ (¬ (sHr (l3)) → Q (-1) (kup σ 0 0 1)))))) : Run G WX M_X11_owner 4 0 0 [vA G 0, vI l1, vI l2, vI l3] σ Q := by
  refine Run.of (by decide +kernel) (by show (4 : Nat) ≤ 5; decide) ?_
  show Ex G WX M_X11_owner 4 0 0 0 [(0, vA G 0), (1, vI l1), (2, vI l2), (3, vI l3)] [] σ Q
  refine R_aload_n e_X11_owner_0.1 0 rfl ?_
  refine R_getA 11 7 5 e_X11_owner_0.2.1 f_X11_43 kx_0 (fun _ _ => rfl) rx_0_7 (by decide) ?_
  refine R_iload_n e_X11_owner_0.2.2.1 1 rfl ?_
  refine R_iload_n e_X11_owner_0.2.2.2.1 2 rfl ?_
  obtain ⟨q3, h⟩ := h
  refine R_callV (mc := 0) (ms := 0) (mc' := 0) (ms' := 0) (M' := M_X0_hasField) (d' := 1) (as := [vI l1, vI l2]) (st := []) 0 2 e_X11_owner_0.2.2.2.2.1 (kCVof m_X0_hasField l_X11_321) rfl (by decide) (kC_self isC_5) (by decide) (by decide) rfl rfl (by show (0 : Nat) ≤ 8; decide) ?_
  refine Run.mono (P_X0_hasField isC_5 q3) (fun rr ss e => ?_)
  obtain ⟨e1, e2⟩ := e
  refine R_eqs (st2 := [vI (kb (sFld v (l1) (l2)))]) (σ2 := σ) (by rw [e1]; rfl) e2 ?_
  refine R_if_eq 20 e_X11_owner_0.2.2.2.2.2.1 (by decide) (kb_r _) (fun q => ?_) (fun q => ?_)
  · replace h := h.1 (kb_f q)
    refine R_aload_n e_X11_owner_1.1 0 rfl ?_
    refine R_iconst e_X11_owner_1.2.1 ?_
    refine R_callV (mc := 0) (ms := 0) (mc' := 0) (ms' := 0) (M' := M_X11_deny) (d' := 0) (as := [vI 1]) (st := []) 11 1 e_X11_owner_1.2.2.1 (kCVof m_X11_deny l_X11_132) rfl (by decide) kx_0 (by decide) (by decide) rfl rfl (by show (0 : Nat) ≤ 8; decide) ?_
    refine S_X11_deny ?_
    refine R_eqs (st2 := [vI (-1)]) (σ2 := (kup σ 0 0 1)) rfl rfl ?_
    exact R_ireturn e_X11_owner_1.2.2.2.1 rfl h
  · replace h := h.2 (kb_t q)
    refine R_aload_n e_X11_owner_0.2.2.2.2.2.2.1 0 rfl ?_
    refine R_iload_n e_X11_owner_0.2.2.2.2.2.2.2.1 3 rfl ?_
    obtain ⟨q8, h⟩ := h
    refine R_callV (mc := 0) (ms := 0) (mc' := 0) (ms' := 0) (M' := M_X11_isHourOfDay) (d' := 0) (as := [vI l3]) (st := []) 11 1 e_X11_owner_0.2.2.2.2.2.2.2.2.1 (kCVof m_X11_isHourOfDay l_X11_228) rfl (by decide) kx_0 (by decide) (by decide) rfl rfl (by show (0 : Nat) ≤ 8; decide) ?_
    refine Run.mono (P_X11_isHourOfDay q8) (fun rr ss e => ?_)
    obtain ⟨e1, e2⟩ := e
    refine R_eqs (st2 := [vI (kb (sHr (l3)))]) (σ2 := σ) (by rw [e1]; rfl) e2 ?_
    refine R_if_ne 26 e_X11_owner_0.2.2.2.2.2.2.2.2.2 (by decide) (kb_r _) (fun q => ?_) (fun q => ?_)
    · replace h := h.1 (kb_t q)
      refine R_aload_n e_X11_owner_1.2.2.2.2.1 0 rfl ?_
      refine R_getA 11 10 58 e_X11_owner_1.2.2.2.2.2.1 f_X11_64 kx_0 (fun _ _ => rfl) rx_0_10 (by decide) ?_
      refine R_aload_n e_X11_owner_1.2.2.2.2.2.2.1 0 rfl ?_
      refine R_getA 11 7 5 e_X11_owner_1.2.2.2.2.2.2.2.1 f_X11_43 kx_0 (fun _ _ => rfl) rx_0_7 (by decide) ?_
      refine R_iload_n e_X11_owner_1.2.2.2.2.2.2.2.2.1 3 rfl ?_
      refine R_callV (mc := 0) (ms := 0) (mc' := 0) (ms' := 0) (M' := M_X8_look) (d' := 3) (as := [vA G 5, vI l3]) (st := []) 8 2 e_X11_owner_1.2.2.2.2.2.2.2.2.2 (kCVof m_X8_look l_X11_308) rfl (by decide) kx_58 (by decide) (by decide) rfl rfl (by show (0 : Nat) ≤ 8; decide) ?_
      refine Run.mono h (fun r9 s10 h => ?_)
      refine R_eqs (st2 := []) rfl rfl ?_
      refine R_aload_n e_X11_owner_2.1 0 rfl ?_
      refine R_getA 11 10 58 e_X11_owner_2.2.1 f_X11_64 kx_0 (fun _ _ => rfl) rx_0_10 (by decide) ?_
      refine R_iload_n e_X11_owner_2.2.2.1 1 rfl ?_
      refine R_iload_n e_X11_owner_2.2.2.2.1 2 rfl ?_
      refine R_callV (mc := 0) (ms := 0) (mc' := 0) (ms' := 0) (M' := M_X8_ownerOf) (d' := 0) (as := [vI l1, vI l2]) (st := []) 8 2 e_X11_owner_2.2.2.2.2.1 (kCVof m_X8_ownerOf l_X11_325) rfl (by decide) kx_58 (by decide) (by decide) rfl rfl (by show (0 : Nat) ≤ 8; decide) ?_
      obtain ⟨q13, h⟩ := h
      refine S_X8_ownerOf ⟨q13, ?_⟩
      refine R_eqs (st2 := [vI (s10 63 ((l2 * 9) + l1))]) (σ2 := s10) rfl rfl ?_
      refine R_istore (ls2 := [(4, vI (s10 63 ((l2 * 9) + l1))), (0, vA G 0), (1, vI l1), (2, vI l2), (3, vI l3)]) e_X11_owner_2.2.2.2.2.2.1 (by decide) rfl ?_
      refine R_iload e_X11_owner_2.2.2.2.2.2.2.1 0 rfl ?_
      refine R_iconst e_X11_owner_2.2.2.2.2.2.2.2.1 ?_
      obtain ⟨q14, h⟩ := h
      refine R_icmp_ne 64 e_X11_owner_2.2.2.2.2.2.2.2.2.1 (by decide) q14 (by decide) (fun q => ?_) (fun q => ?_)
      · replace h := h.1 q
        refine R_aload_n e_X11_owner_3.2.2.2.1 1 rfl ?_
        refine R_iload e_X11_owner_3.2.2.2.2.1 0 rfl ?_
        refine R_callV (mc := 0) (ms := 0) (mc' := 0) (ms' := 0) (M' := M_X11_give) (d' := 0) (as := [vI (s10 63 ((l2 * 9) + l1))]) (st := []) 11 1 e_X11_owner_3.2.2.2.2.2.1 (kCVof m_X11_give l_X11_176) rfl (by decide) kx_0 (by decide) (by decide) rfl rfl (by show (0 : Nat) ≤ 8; decide) ?_
        refine S_X11_give ?_
        refine R_eqs (st2 := [vI (s10 63 ((l2 * 9) + l1))]) (σ2 := (kup s10 0 0 0)) rfl rfl ?_
        exact R_ireturn e_X11_owner_3.2.2.2.2.2.2 rfl h
      · replace h := h.2 q
        refine R_aload_n e_X11_owner_2.2.2.2.2.2.2.2.2.2 1 rfl ?_
        refine R_bipush e_X11_owner_3.1 (by decide) ?_
        refine R_callV (mc := 0) (ms := 0) (mc' := 0) (ms' := 0) (M' := M_X11_deny) (d' := 0) (as := [vI 6]) (st := []) 11 1 e_X11_owner_3.2.1 (kCVof m_X11_deny l_X11_132) rfl (by decide) kx_0 (by decide) (by decide) rfl rfl (by show (0 : Nat) ≤ 8; decide) ?_
        refine S_X11_deny ?_
        refine R_eqs (st2 := [vI (-1)]) (σ2 := (kup s10 0 0 6)) rfl rfl ?_
        refine R_goto 70 e_X11_owner_3.2.2.1 (by decide) ?_
        exact R_ireturn e_X11_owner_3.2.2.2.2.2.2 rfl h
    · replace h := h.2 (kb_f q)
      refine R_aload_n e_X11_owner_1.1 0 rfl ?_
      refine R_iconst e_X11_owner_1.2.1 ?_
      refine R_callV (mc := 0) (ms := 0) (mc' := 0) (ms' := 0) (M' := M_X11_deny) (d' := 0) (as := [vI 1]) (st := []) 11 1 e_X11_owner_1.2.2.1 (kCVof m_X11_deny l_X11_132) rfl (by decide) kx_0 (by decide) (by decide) rfl rfl (by show (0 : Nat) ≤ 8; decide) ?_
      refine S_X11_deny ?_
      refine R_eqs (st2 := [vI (-1)]) (σ2 := (kup σ 0 0 1)) rfl rfl ?_
      exact R_ireturn e_X11_owner_1.2.2.2.1 rfl h
/-! KiteLand.shaders(III)I -/
theorem e_X11_shaders_0 : decode cX11_shaders 0 = .ok (.aload_n 0, 1) ∧ decode cX11_shaders 1 = .ok (.getfield 43, 3) ∧ decode cX11_shaders 4 = .ok (.iload_n 1, 1) ∧ decode cX11_shaders 5 = .ok (.iload_n 2, 1) ∧ decode cX11_shaders 6 = .ok (.invokevirtual 321, 3) ∧ decode cX11_shaders 9 = .ok (.ifCond .eq 11, 3) ∧ decode cX11_shaders 12 = .ok (.aload_n 0, 1) ∧ decode cX11_shaders 13 = .ok (.iload_n 3, 1) ∧ decode cX11_shaders 14 = .ok (.invokevirtual 228, 3) ∧ decode cX11_shaders 17 = .ok (.ifCond .ne 9, 3) := by decide +kernel
theorem e_X11_shaders_1 : decode cX11_shaders 20 = .ok (.aload_n 0, 1) ∧ decode cX11_shaders 21 = .ok (.iconst 1, 1) ∧ decode cX11_shaders 22 = .ok (.invokevirtual 132, 3) ∧ decode cX11_shaders 25 = .ok (.ireturn, 1) ∧ decode cX11_shaders 26 = .ok (.aload_n 0, 1) ∧ decode cX11_shaders 27 = .ok (.getfield 64, 3) ∧ decode cX11_shaders 30 = .ok (.aload_n 0, 1) ∧ decode cX11_shaders 31 = .ok (.getfield 43, 3) ∧ decode cX11_shaders 34 = .ok (.iload_n 3, 1) ∧ decode cX11_shaders 35 = .ok (.invokevirtual 308, 3) := by decide +kernel
theorem e_X11_shaders_2 : decode cX11_shaders 38 = .ok (.aload_n 0, 1) ∧ decode cX11_shaders 39 = .ok (.aload_n 0, 1) ∧ decode cX11_shaders 40 = .ok (.getfield 64, 3) ∧ decode cX11_shaders 43 = .ok (.iload_n 1, 1) ∧ decode cX11_shaders 44 = .ok (.iload_n 2, 1) ∧ decode cX11_shaders 45 = .ok (.invokevirtual 328, 3) ∧ decode cX11_shaders 48 = .ok (.invokevirtual 176, 3) ∧ decode cX11_shaders 51 = .ok (.ireturn, 1) := by decide +kernel
theorem S_X11_shaders {G : Kg} {σ : Kmem} {Q : Int → Kmem → Prop} {l1 l2 l3 : Int} {v : Int → Int}  (h : (wf v ∧ kco σ 5 v ∧ rI (l1) ∧ rI (l2)) ∧ ((¬ (sFld v (l1) (l2)) → Q (-1) (kup σ 0 0 1)) ∧ ((sFld v (l1) (l2)) → (rI (l3)) ∧ (((sHr (l3)) → Run G WX M_X8_look 3 0 0 [vA G 58, vA G 5, vI l3] σ (fun r9 s10 => (0 ≤ (l2 * 9) + l1 ∧ (l2 * 9) + l1 < 63) ∧ Q (s10 62 ((l2 * 9) + l1)) (kup s10 0 0 0))) ∧ (¬ (sHr (l3)) → Q (-1) (kup σ 0 0 1)))))) : Run G WX M_X11_shaders 4 0 0 [vA G 0, vI l1, vI l2, vI l3] σ Q := by
  refine Run.of (by decide +kernel) (by show (4 : Nat) ≤ 4; decide) ?_
  show Ex G WX M_X11_shaders 4 0 0 0 [(0, vA G 0), (1, vI l1), (2, vI l2), (3, vI l3)] [] σ Q
  refine R_aload_n e_X11_shaders_0.1 0 rfl ?_
  refine R_getA 11 7 5 e_X11_shaders_0.2.1 f_X11_43 kx_0 (fun _ _ => rfl) rx_0_7 (by decide) ?_
  refine R_iload_n e_X11_shaders_0.2.2.1 1 rfl ?_
  refine R_iload_n e_X11_shaders_0.2.2.2.1 2 rfl ?_
  obtain ⟨q3, h⟩ := h
  refine R_callV (mc := 0) (ms := 0) (mc' := 0) (ms' := 0) (M' := M_X0_hasField) (d' := 1) (as := [vI l1, vI l2]) (st := []) 0 2 e_X11_shaders_0.2.2.2.2.1 (kCVof m_X0_hasField l_X11_321) rfl (by decide) (kC_self isC_5) (by decide) (by decide) rfl rfl (by show (0 : Nat) ≤ 8; decide) ?_
  refine Run.mono (P_X0_hasField isC_5 q3) (fun rr ss e => ?_)
  obtain ⟨e1, e2⟩ := e
  refine R_eqs (st2 := [vI (kb (sFld v (l1) (l2)))]) (σ2 := σ) (by rw [e1]; rfl) e2 ?_
  refine R_if_eq 20 e_X11_shaders_0.2.2.2.2.2.1 (by decide) (kb_r _) (fun q => ?_) (fun q => ?_)
  · replace h := h.1 (kb_f q)
    refine R_aload_n e_X11_shaders_1.1 0 rfl ?_
    refine R_iconst e_X11_shaders_1.2.1 ?_
    refine R_callV (mc := 0) (ms := 0) (mc' := 0) (ms' := 0) (M' := M_X11_deny) (d' := 0) (as := [vI 1]) (st := []) 11 1 e_X11_shaders_1.2.2.1 (kCVof m_X11_deny l_X11_132) rfl (by decide) kx_0 (by decide) (by decide) rfl rfl (by show (0 : Nat) ≤ 8; decide) ?_
    refine S_X11_deny ?_
    refine R_eqs (st2 := [vI (-1)]) (σ2 := (kup σ 0 0 1)) rfl rfl ?_
    exact R_ireturn e_X11_shaders_1.2.2.2.1 rfl h
  · replace h := h.2 (kb_t q)
    refine R_aload_n e_X11_shaders_0.2.2.2.2.2.2.1 0 rfl ?_
    refine R_iload_n e_X11_shaders_0.2.2.2.2.2.2.2.1 3 rfl ?_
    obtain ⟨q8, h⟩ := h
    refine R_callV (mc := 0) (ms := 0) (mc' := 0) (ms' := 0) (M' := M_X11_isHourOfDay) (d' := 0) (as := [vI l3]) (st := []) 11 1 e_X11_shaders_0.2.2.2.2.2.2.2.2.1 (kCVof m_X11_isHourOfDay l_X11_228) rfl (by decide) kx_0 (by decide) (by decide) rfl rfl (by show (0 : Nat) ≤ 8; decide) ?_
    refine Run.mono (P_X11_isHourOfDay q8) (fun rr ss e => ?_)
    obtain ⟨e1, e2⟩ := e
    refine R_eqs (st2 := [vI (kb (sHr (l3)))]) (σ2 := σ) (by rw [e1]; rfl) e2 ?_
    refine R_if_ne 26 e_X11_shaders_0.2.2.2.2.2.2.2.2.2 (by decide) (kb_r _) (fun q => ?_) (fun q => ?_)
    · replace h := h.1 (kb_t q)
      refine R_aload_n e_X11_shaders_1.2.2.2.2.1 0 rfl ?_
      refine R_getA 11 10 58 e_X11_shaders_1.2.2.2.2.2.1 f_X11_64 kx_0 (fun _ _ => rfl) rx_0_10 (by decide) ?_
      refine R_aload_n e_X11_shaders_1.2.2.2.2.2.2.1 0 rfl ?_
      refine R_getA 11 7 5 e_X11_shaders_1.2.2.2.2.2.2.2.1 f_X11_43 kx_0 (fun _ _ => rfl) rx_0_7 (by decide) ?_
      refine R_iload_n e_X11_shaders_1.2.2.2.2.2.2.2.2.1 3 rfl ?_
      refine R_callV (mc := 0) (ms := 0) (mc' := 0) (ms' := 0) (M' := M_X8_look) (d' := 3) (as := [vA G 5, vI l3]) (st := []) 8 2 e_X11_shaders_1.2.2.2.2.2.2.2.2.2 (kCVof m_X8_look l_X11_308) rfl (by decide) kx_58 (by decide) (by decide) rfl rfl (by show (0 : Nat) ≤ 8; decide) ?_
      refine Run.mono h (fun r9 s10 h => ?_)
      refine R_eqs (st2 := []) rfl rfl ?_
      refine R_aload_n e_X11_shaders_2.1 0 rfl ?_
      refine R_aload_n e_X11_shaders_2.2.1 0 rfl ?_
      refine R_getA 11 10 58 e_X11_shaders_2.2.2.1 f_X11_64 kx_0 (fun _ _ => rfl) rx_0_10 (by decide) ?_
      refine R_iload_n e_X11_shaders_2.2.2.2.1 1 rfl ?_
      refine R_iload_n e_X11_shaders_2.2.2.2.2.1 2 rfl ?_
      refine R_callV (mc := 0) (ms := 0) (mc' := 0) (ms' := 0) (M' := M_X8_shadersOf) (d' := 0) (as := [vI l1, vI l2]) (st := [vA G 0]) 8 2 e_X11_shaders_2.2.2.2.2.2.1 (kCVof m_X8_shadersOf l_X11_328) rfl (by decide) kx_58 (by decide) (by decide) rfl rfl (by show (1 : Nat) ≤ 8; decide) ?_
      obtain ⟨q13, h⟩ := h
      refine S_X8_shadersOf ⟨q13, ?_⟩
      refine R_eqs (st2 := [vI (s10 62 ((l2 * 9) + l1)), vA G 0]) (σ2 := s10) rfl rfl ?_
      refine R_callV (mc := 0) (ms := 0) (mc' := 0) (ms' := 0) (M' := M_X11_give) (d' := 0) (as := [vI (s10 62 ((l2 * 9) + l1))]) (st := []) 11 1 e_X11_shaders_2.2.2.2.2.2.2.1 (kCVof m_X11_give l_X11_176) rfl (by decide) kx_0 (by decide) (by decide) rfl rfl (by show (0 : Nat) ≤ 8; decide) ?_
      refine S_X11_give ?_
      refine R_eqs (st2 := [vI (s10 62 ((l2 * 9) + l1))]) (σ2 := (kup s10 0 0 0)) rfl rfl ?_
      exact R_ireturn e_X11_shaders_2.2.2.2.2.2.2.2 rfl h
    · replace h := h.2 (kb_f q)
      refine R_aload_n e_X11_shaders_1.1 0 rfl ?_
      refine R_iconst e_X11_shaders_1.2.1 ?_
      refine R_callV (mc := 0) (ms := 0) (mc' := 0) (ms' := 0) (M' := M_X11_deny) (d' := 0) (as := [vI 1]) (st := []) 11 1 e_X11_shaders_1.2.2.1 (kCVof m_X11_deny l_X11_132) rfl (by decide) kx_0 (by decide) (by decide) rfl rfl (by show (0 : Nat) ≤ 8; decide) ?_
      refine S_X11_deny ?_
      refine R_eqs (st2 := [vI (-1)]) (σ2 := (kup σ 0 0 1)) rfl rfl ?_
      exact R_ireturn e_X11_shaders_1.2.2.2.1 rfl h
/-! KiteLand.estate(II)I -/
theorem e_X11_estate_0 : decode cX11_estate 0 = .ok (.aload_n 0, 1) ∧ decode cX11_estate 1 = .ok (.getfield 43, 3) ∧ decode cX11_estate 4 = .ok (.iload_n 1, 1) ∧ decode cX11_estate 5 = .ok (.invokevirtual 238, 3) ∧ decode cX11_estate 8 = .ok (.ifCond .eq 11, 3) ∧ decode cX11_estate 11 = .ok (.aload_n 0, 1) ∧ decode cX11_estate 12 = .ok (.iload_n 2, 1) ∧ decode cX11_estate 13 = .ok (.invokevirtual 228, 3) ∧ decode cX11_estate 16 = .ok (.ifCond .ne 9, 3) ∧ decode cX11_estate 19 = .ok (.aload_n 0, 1) := by decide +kernel
theorem e_X11_estate_1 : decode cX11_estate 20 = .ok (.iconst 1, 1) ∧ decode cX11_estate 21 = .ok (.invokevirtual 132, 3) ∧ decode cX11_estate 24 = .ok (.ireturn, 1) ∧ decode cX11_estate 25 = .ok (.aload_n 0, 1) ∧ decode cX11_estate 26 = .ok (.getfield 64, 3) ∧ decode cX11_estate 29 = .ok (.aload_n 0, 1) ∧ decode cX11_estate 30 = .ok (.getfield 43, 3) ∧ decode cX11_estate 33 = .ok (.iload_n 2, 1) ∧ decode cX11_estate 34 = .ok (.invokevirtual 308, 3) ∧ decode cX11_estate 37 = .ok (.aload_n 0, 1) := by decide +kernel
theorem e_X11_estate_2 : decode cX11_estate 38 = .ok (.aload_n 0, 1) ∧ decode cX11_estate 39 = .ok (.getfield 64, 3) ∧ decode cX11_estate 42 = .ok (.iload_n 1, 1) ∧ decode cX11_estate 43 = .ok (.invokevirtual 331, 3) ∧ decode cX11_estate 46 = .ok (.invokevirtual 176, 3) ∧ decode cX11_estate 49 = .ok (.ireturn, 1) := by decide +kernel
theorem S_X11_estate {G : Kg} {σ : Kmem} {Q : Int → Kmem → Prop} {l1 l2 : Int} {v : Int → Int}  (h : (wf v ∧ kco σ 5 v ∧ rI (l1)) ∧ ((¬ (sKt v (l1)) → Q (-1) (kup σ 0 0 1)) ∧ ((sKt v (l1)) → (rI (l2)) ∧ (((sHr (l2)) → Run G WX M_X8_look 3 0 0 [vA G 58, vA G 5, vI l2] σ (fun r9 s10 => Run G WX M_X8_fieldsOf 0 0 0 [vA G 58, vI l1] s10 (fun r11 s12 => Q r11 (kup s12 0 0 0)))) ∧ (¬ (sHr (l2)) → Q (-1) (kup σ 0 0 1)))))) : Run G WX M_X11_estate 4 0 0 [vA G 0, vI l1, vI l2] σ Q := by
  refine Run.of (by decide +kernel) (by show (3 : Nat) ≤ 3; decide) ?_
  show Ex G WX M_X11_estate 4 0 0 0 [(0, vA G 0), (1, vI l1), (2, vI l2)] [] σ Q
  refine R_aload_n e_X11_estate_0.1 0 rfl ?_
  refine R_getA 11 7 5 e_X11_estate_0.2.1 f_X11_43 kx_0 (fun _ _ => rfl) rx_0_7 (by decide) ?_
  refine R_iload_n e_X11_estate_0.2.2.1 1 rfl ?_
  obtain ⟨q3, h⟩ := h
  refine R_callV (mc := 0) (ms := 0) (mc' := 0) (ms' := 0) (M' := M_X0_hasKite) (d' := 0) (as := [vI l1]) (st := []) 0 1 e_X11_estate_0.2.2.2.1 (kCVof m_X0_hasKite l_X11_238) rfl (by decide) (kC_self isC_5) (by decide) (by decide) rfl rfl (by show (0 : Nat) ≤ 8; decide) ?_
  refine Run.mono (P_X0_hasKite isC_5 q3) (fun rr ss e => ?_)
  obtain ⟨e1, e2⟩ := e
  refine R_eqs (st2 := [vI (kb (sKt v (l1)))]) (σ2 := σ) (by rw [e1]; rfl) e2 ?_
  refine R_if_eq 19 e_X11_estate_0.2.2.2.2.1 (by decide) (kb_r _) (fun q => ?_) (fun q => ?_)
  · replace h := h.1 (kb_f q)
    refine R_aload_n e_X11_estate_0.2.2.2.2.2.2.2.2.2 0 rfl ?_
    refine R_iconst e_X11_estate_1.1 ?_
    refine R_callV (mc := 0) (ms := 0) (mc' := 0) (ms' := 0) (M' := M_X11_deny) (d' := 0) (as := [vI 1]) (st := []) 11 1 e_X11_estate_1.2.1 (kCVof m_X11_deny l_X11_132) rfl (by decide) kx_0 (by decide) (by decide) rfl rfl (by show (0 : Nat) ≤ 8; decide) ?_
    refine S_X11_deny ?_
    refine R_eqs (st2 := [vI (-1)]) (σ2 := (kup σ 0 0 1)) rfl rfl ?_
    exact R_ireturn e_X11_estate_1.2.2.1 rfl h
  · replace h := h.2 (kb_t q)
    refine R_aload_n e_X11_estate_0.2.2.2.2.2.1 0 rfl ?_
    refine R_iload_n e_X11_estate_0.2.2.2.2.2.2.1 2 rfl ?_
    obtain ⟨q8, h⟩ := h
    refine R_callV (mc := 0) (ms := 0) (mc' := 0) (ms' := 0) (M' := M_X11_isHourOfDay) (d' := 0) (as := [vI l2]) (st := []) 11 1 e_X11_estate_0.2.2.2.2.2.2.2.1 (kCVof m_X11_isHourOfDay l_X11_228) rfl (by decide) kx_0 (by decide) (by decide) rfl rfl (by show (0 : Nat) ≤ 8; decide) ?_
    refine Run.mono (P_X11_isHourOfDay q8) (fun rr ss e => ?_)
    obtain ⟨e1, e2⟩ := e
    refine R_eqs (st2 := [vI (kb (sHr (l2)))]) (σ2 := σ) (by rw [e1]; rfl) e2 ?_
    refine R_if_ne 25 e_X11_estate_0.2.2.2.2.2.2.2.2.1 (by decide) (kb_r _) (fun q => ?_) (fun q => ?_)
    · replace h := h.1 (kb_t q)
      refine R_aload_n e_X11_estate_1.2.2.2.1 0 rfl ?_
      refine R_getA 11 10 58 e_X11_estate_1.2.2.2.2.1 f_X11_64 kx_0 (fun _ _ => rfl) rx_0_10 (by decide) ?_
      refine R_aload_n e_X11_estate_1.2.2.2.2.2.1 0 rfl ?_
      refine R_getA 11 7 5 e_X11_estate_1.2.2.2.2.2.2.1 f_X11_43 kx_0 (fun _ _ => rfl) rx_0_7 (by decide) ?_
      refine R_iload_n e_X11_estate_1.2.2.2.2.2.2.2.1 2 rfl ?_
      refine R_callV (mc := 0) (ms := 0) (mc' := 0) (ms' := 0) (M' := M_X8_look) (d' := 3) (as := [vA G 5, vI l2]) (st := []) 8 2 e_X11_estate_1.2.2.2.2.2.2.2.2.1 (kCVof m_X8_look l_X11_308) rfl (by decide) kx_58 (by decide) (by decide) rfl rfl (by show (0 : Nat) ≤ 8; decide) ?_
      refine Run.mono h (fun r9 s10 h => ?_)
      refine R_eqs (st2 := []) rfl rfl ?_
      refine R_aload_n e_X11_estate_1.2.2.2.2.2.2.2.2.2 0 rfl ?_
      refine R_aload_n e_X11_estate_2.1 0 rfl ?_
      refine R_getA 11 10 58 e_X11_estate_2.2.1 f_X11_64 kx_0 (fun _ _ => rfl) rx_0_10 (by decide) ?_
      refine R_iload_n e_X11_estate_2.2.2.1 1 rfl ?_
      refine R_callV (mc := 0) (ms := 0) (mc' := 0) (ms' := 0) (M' := M_X8_fieldsOf) (d' := 0) (as := [vI l1]) (st := [vA G 0]) 8 1 e_X11_estate_2.2.2.2.1 (kCVof m_X8_fieldsOf l_X11_331) rfl (by decide) kx_58 (by decide) (by decide) rfl rfl (by show (1 : Nat) ≤ 8; decide) ?_
      refine Run.mono h (fun r11 s12 h => ?_)
      refine R_eqs (st2 := [vI r11, vA G 0]) rfl rfl ?_
      refine R_callV (mc := 0) (ms := 0) (mc' := 0) (ms' := 0) (M' := M_X11_give) (d' := 0) (as := [vI r11]) (st := []) 11 1 e_X11_estate_2.2.2.2.2.1 (kCVof m_X11_give l_X11_176) rfl (by decide) kx_0 (by decide) (by decide) rfl rfl (by show (0 : Nat) ≤ 8; decide) ?_
      refine S_X11_give ?_
      refine R_eqs (st2 := [vI r11]) (σ2 := (kup s12 0 0 0)) rfl rfl ?_
      exact R_ireturn e_X11_estate_2.2.2.2.2.2 rfl h
    · replace h := h.2 (kb_f q)
      refine R_aload_n e_X11_estate_0.2.2.2.2.2.2.2.2.2 0 rfl ?_
      refine R_iconst e_X11_estate_1.1 ?_
      refine R_callV (mc := 0) (ms := 0) (mc' := 0) (ms' := 0) (M' := M_X11_deny) (d' := 0) (as := [vI 1]) (st := []) 11 1 e_X11_estate_1.2.1 (kCVof m_X11_deny l_X11_132) rfl (by decide) kx_0 (by decide) (by decide) rfl rfl (by show (0 : Nat) ≤ 8; decide) ?_
      refine S_X11_deny ?_
      refine R_eqs (st2 := [vI (-1)]) (σ2 := (kup σ 0 0 1)) rfl rfl ?_
      exact R_ireturn e_X11_estate_1.2.2.1 rfl h
/-! KiteLand.nobodys(I)I -/
theorem e_X11_nobodys_0 : decode cX11_nobodys 0 = .ok (.aload_n 0, 1) ∧ decode cX11_nobodys 1 = .ok (.iload_n 1, 1) ∧ decode cX11_nobodys 2 = .ok (.invokevirtual 228, 3) ∧ decode cX11_nobodys 5 = .ok (.ifCond .ne 9, 3) ∧ decode cX11_nobodys 8 = .ok (.aload_n 0, 1) ∧ decode cX11_nobodys 9 = .ok (.iconst 1, 1) ∧ decode cX11_nobodys 10 = .ok (.invokevirtual 132, 3) ∧ decode cX11_nobodys 13 = .ok (.ireturn, 1) ∧ decode cX11_nobodys 14 = .ok (.aload_n 0, 1) ∧ decode cX11_nobodys 15 = .ok (.getfield 64, 3) := by decide +kernel
theorem e_X11_nobodys_1 : decode cX11_nobodys 18 = .ok (.aload_n 0, 1) ∧ decode cX11_nobodys 19 = .ok (.getfield 43, 3) ∧ decode cX11_nobodys 22 = .ok (.iload_n 1, 1) ∧ decode cX11_nobodys 23 = .ok (.invokevirtual 308, 3) ∧ decode cX11_nobodys 26 = .ok (.aload_n 0, 1) ∧ decode cX11_nobodys 27 = .ok (.aload_n 0, 1) ∧ decode cX11_nobodys 28 = .ok (.getfield 43, 3) ∧ decode cX11_nobodys 31 = .ok (.getfield 194, 3) ∧ decode cX11_nobodys 34 = .ok (.aload_n 0, 1) ∧ decode cX11_nobodys 35 = .ok (.getfield 43, 3) := by decide +kernel
theorem e_X11_nobodys_2 : decode cX11_nobodys 38 = .ok (.getfield 197, 3) ∧ decode cX11_nobodys 41 = .ok (.imul, 1) ∧ decode cX11_nobodys 42 = .ok (.aload_n 0, 1) ∧ decode cX11_nobodys 43 = .ok (.getfield 64, 3) ∧ decode cX11_nobodys 46 = .ok (.invokevirtual 334, 3) ∧ decode cX11_nobodys 49 = .ok (.isub, 1) ∧ decode cX11_nobodys 50 = .ok (.invokevirtual 176, 3) ∧ decode cX11_nobodys 53 = .ok (.ireturn, 1) := by decide +kernel
theorem S_X11_nobodys {G : Kg} {σ : Kmem} {Q : Int → Kmem → Prop} {l1 : Int}  (h : (rI (l1)) ∧ (((sHr (l1)) → Run G WX M_X8_look 3 0 0 [vA G 58, vA G 5, vI l1] σ (fun r4 s5 => Run G WX M_X8_ownedFields 0 0 0 [vA G 58] s5 (fun r6 s7 => Q (((s5 5 0) * (s5 5 1)) - r6) (kup s7 0 0 0)))) ∧ (¬ (sHr (l1)) → Q (-1) (kup σ 0 0 1)))) : Run G WX M_X11_nobodys 4 0 0 [vA G 0, vI l1] σ Q := by
  refine Run.of (by decide +kernel) (by show (2 : Nat) ≤ 2; decide) ?_
  show Ex G WX M_X11_nobodys 4 0 0 0 [(0, vA G 0), (1, vI l1)] [] σ Q
  refine R_aload_n e_X11_nobodys_0.1 0 rfl ?_
  refine R_iload_n e_X11_nobodys_0.2.1 1 rfl ?_
  obtain ⟨q3, h⟩ := h
  refine R_callV (mc := 0) (ms := 0) (mc' := 0) (ms' := 0) (M' := M_X11_isHourOfDay) (d' := 0) (as := [vI l1]) (st := []) 11 1 e_X11_nobodys_0.2.2.1 (kCVof m_X11_isHourOfDay l_X11_228) rfl (by decide) kx_0 (by decide) (by decide) rfl rfl (by show (0 : Nat) ≤ 8; decide) ?_
  refine Run.mono (P_X11_isHourOfDay q3) (fun rr ss e => ?_)
  obtain ⟨e1, e2⟩ := e
  refine R_eqs (st2 := [vI (kb (sHr (l1)))]) (σ2 := σ) (by rw [e1]; rfl) e2 ?_
  refine R_if_ne 14 e_X11_nobodys_0.2.2.2.1 (by decide) (kb_r _) (fun q => ?_) (fun q => ?_)
  · replace h := h.1 (kb_t q)
    refine R_aload_n e_X11_nobodys_0.2.2.2.2.2.2.2.2.1 0 rfl ?_
    refine R_getA 11 10 58 e_X11_nobodys_0.2.2.2.2.2.2.2.2.2 f_X11_64 kx_0 (fun _ _ => rfl) rx_0_10 (by decide) ?_
    refine R_aload_n e_X11_nobodys_1.1 0 rfl ?_
    refine R_getA 11 7 5 e_X11_nobodys_1.2.1 f_X11_43 kx_0 (fun _ _ => rfl) rx_0_7 (by decide) ?_
    refine R_iload_n e_X11_nobodys_1.2.2.1 1 rfl ?_
    refine R_callV (mc := 0) (ms := 0) (mc' := 0) (ms' := 0) (M' := M_X8_look) (d' := 3) (as := [vA G 5, vI l1]) (st := []) 8 2 e_X11_nobodys_1.2.2.2.1 (kCVof m_X8_look l_X11_308) rfl (by decide) kx_58 (by decide) (by decide) rfl rfl (by show (0 : Nat) ≤ 8; decide) ?_
    refine Run.mono h (fun r4 s5 h => ?_)
    refine R_eqs (st2 := []) rfl rfl ?_
    refine R_aload_n e_X11_nobodys_1.2.2.2.2.1 0 rfl ?_
    refine R_aload_n e_X11_nobodys_1.2.2.2.2.2.1 0 rfl ?_
    refine R_getA 11 7 5 e_X11_nobodys_1.2.2.2.2.2.2.1 f_X11_43 kx_0 (fun _ _ => rfl) rx_0_7 (by decide) ?_
    refine R_getI 0 0 0 e_X11_nobodys_1.2.2.2.2.2.2.2.1 f_X11_194 (kC_self isC_5) (fun _ _ => rfl) rfl ?_
    refine R_aload_n e_X11_nobodys_1.2.2.2.2.2.2.2.2.1 0 rfl ?_
    refine R_getA 11 7 5 e_X11_nobodys_1.2.2.2.2.2.2.2.2.2 f_X11_43 kx_0 (fun _ _ => rfl) rx_0_7 (by decide) ?_
    refine R_getI 0 1 1 e_X11_nobodys_2.1 f_X11_197 (kC_self isC_5) (fun _ _ => rfl) rfl ?_
    refine R_imul e_X11_nobodys_2.2.1 ?_
    refine R_aload_n e_X11_nobodys_2.2.2.1 0 rfl ?_
    refine R_getA 11 10 58 e_X11_nobodys_2.2.2.2.1 f_X11_64 kx_0 (fun _ _ => rfl) rx_0_10 (by decide) ?_
    refine R_callV (mc := 0) (ms := 0) (mc' := 0) (ms' := 0) (M' := M_X8_ownedFields) (d' := 0) (as := []) (st := [vI ((s5 5 0) * (s5 5 1)), vA G 0]) 8 0 e_X11_nobodys_2.2.2.2.2.1 (kCVof m_X8_ownedFields l_X11_334) rfl (by decide) kx_58 (by decide) (by decide) rfl rfl (by show (2 : Nat) ≤ 8; decide) ?_
    refine Run.mono h (fun r6 s7 h => ?_)
    refine R_eqs (st2 := [vI r6, vI ((s5 5 0) * (s5 5 1)), vA G 0]) rfl rfl ?_
    refine R_isub e_X11_nobodys_2.2.2.2.2.2.1 ?_
    refine R_callV (mc := 0) (ms := 0) (mc' := 0) (ms' := 0) (M' := M_X11_give) (d' := 0) (as := [vI (((s5 5 0) * (s5 5 1)) - r6)]) (st := []) 11 1 e_X11_nobodys_2.2.2.2.2.2.2.1 (kCVof m_X11_give l_X11_176) rfl (by decide) kx_0 (by decide) (by decide) rfl rfl (by show (0 : Nat) ≤ 8; decide) ?_
    refine S_X11_give ?_
    refine R_eqs (st2 := [vI (((s5 5 0) * (s5 5 1)) - r6)]) (σ2 := (kup s7 0 0 0)) rfl rfl ?_
    exact R_ireturn e_X11_nobodys_2.2.2.2.2.2.2.2 rfl h
  · replace h := h.2 (kb_f q)
    refine R_aload_n e_X11_nobodys_0.2.2.2.2.1 0 rfl ?_
    refine R_iconst e_X11_nobodys_0.2.2.2.2.2.1 ?_
    refine R_callV (mc := 0) (ms := 0) (mc' := 0) (ms' := 0) (M' := M_X11_deny) (d' := 0) (as := [vI 1]) (st := []) 11 1 e_X11_nobodys_0.2.2.2.2.2.2.1 (kCVof m_X11_deny l_X11_132) rfl (by decide) kx_0 (by decide) (by decide) rfl rfl (by show (0 : Nat) ≤ 8; decide) ?_
    refine S_X11_deny ?_
    refine R_eqs (st2 := [vI (-1)]) (σ2 := (kup σ 0 0 1)) rfl rfl ?_
    exact R_ireturn e_X11_nobodys_0.2.2.2.2.2.2.2.1 rfl h
/-! KiteLand.disputed(I)I -/
theorem e_X11_disputed_0 : decode cX11_disputed 0 = .ok (.aload_n 0, 1) ∧ decode cX11_disputed 1 = .ok (.iload_n 1, 1) ∧ decode cX11_disputed 2 = .ok (.invokevirtual 228, 3) ∧ decode cX11_disputed 5 = .ok (.ifCond .ne 9, 3) ∧ decode cX11_disputed 8 = .ok (.aload_n 0, 1) ∧ decode cX11_disputed 9 = .ok (.iconst 1, 1) ∧ decode cX11_disputed 10 = .ok (.invokevirtual 132, 3) ∧ decode cX11_disputed 13 = .ok (.ireturn, 1) ∧ decode cX11_disputed 14 = .ok (.aload_n 0, 1) ∧ decode cX11_disputed 15 = .ok (.getfield 64, 3) := by decide +kernel
theorem e_X11_disputed_1 : decode cX11_disputed 18 = .ok (.aload_n 0, 1) ∧ decode cX11_disputed 19 = .ok (.getfield 43, 3) ∧ decode cX11_disputed 22 = .ok (.iload_n 1, 1) ∧ decode cX11_disputed 23 = .ok (.invokevirtual 308, 3) ∧ decode cX11_disputed 26 = .ok (.aload_n 0, 1) ∧ decode cX11_disputed 27 = .ok (.aload_n 0, 1) ∧ decode cX11_disputed 28 = .ok (.getfield 64, 3) ∧ decode cX11_disputed 31 = .ok (.invokevirtual 337, 3) ∧ decode cX11_disputed 34 = .ok (.invokevirtual 176, 3) ∧ decode cX11_disputed 37 = .ok (.ireturn, 1) := by decide +kernel
theorem S_X11_disputed {G : Kg} {σ : Kmem} {Q : Int → Kmem → Prop} {l1 : Int}  (h : (rI (l1)) ∧ (((sHr (l1)) → Run G WX M_X8_look 3 0 0 [vA G 58, vA G 5, vI l1] σ (fun r4 s5 => Run G WX M_X8_disputedFields 1 0 0 [vA G 58] s5 (fun r6 s7 => Q r6 (kup s7 0 0 0)))) ∧ (¬ (sHr (l1)) → Q (-1) (kup σ 0 0 1)))) : Run G WX M_X11_disputed 4 0 0 [vA G 0, vI l1] σ Q := by
  refine Run.of (by decide +kernel) (by show (2 : Nat) ≤ 2; decide) ?_
  show Ex G WX M_X11_disputed 4 0 0 0 [(0, vA G 0), (1, vI l1)] [] σ Q
  refine R_aload_n e_X11_disputed_0.1 0 rfl ?_
  refine R_iload_n e_X11_disputed_0.2.1 1 rfl ?_
  obtain ⟨q3, h⟩ := h
  refine R_callV (mc := 0) (ms := 0) (mc' := 0) (ms' := 0) (M' := M_X11_isHourOfDay) (d' := 0) (as := [vI l1]) (st := []) 11 1 e_X11_disputed_0.2.2.1 (kCVof m_X11_isHourOfDay l_X11_228) rfl (by decide) kx_0 (by decide) (by decide) rfl rfl (by show (0 : Nat) ≤ 8; decide) ?_
  refine Run.mono (P_X11_isHourOfDay q3) (fun rr ss e => ?_)
  obtain ⟨e1, e2⟩ := e
  refine R_eqs (st2 := [vI (kb (sHr (l1)))]) (σ2 := σ) (by rw [e1]; rfl) e2 ?_
  refine R_if_ne 14 e_X11_disputed_0.2.2.2.1 (by decide) (kb_r _) (fun q => ?_) (fun q => ?_)
  · replace h := h.1 (kb_t q)
    refine R_aload_n e_X11_disputed_0.2.2.2.2.2.2.2.2.1 0 rfl ?_
    refine R_getA 11 10 58 e_X11_disputed_0.2.2.2.2.2.2.2.2.2 f_X11_64 kx_0 (fun _ _ => rfl) rx_0_10 (by decide) ?_
    refine R_aload_n e_X11_disputed_1.1 0 rfl ?_
    refine R_getA 11 7 5 e_X11_disputed_1.2.1 f_X11_43 kx_0 (fun _ _ => rfl) rx_0_7 (by decide) ?_
    refine R_iload_n e_X11_disputed_1.2.2.1 1 rfl ?_
    refine R_callV (mc := 0) (ms := 0) (mc' := 0) (ms' := 0) (M' := M_X8_look) (d' := 3) (as := [vA G 5, vI l1]) (st := []) 8 2 e_X11_disputed_1.2.2.2.1 (kCVof m_X8_look l_X11_308) rfl (by decide) kx_58 (by decide) (by decide) rfl rfl (by show (0 : Nat) ≤ 8; decide) ?_
    refine Run.mono h (fun r4 s5 h => ?_)
    refine R_eqs (st2 := []) rfl rfl ?_
    refine R_aload_n e_X11_disputed_1.2.2.2.2.1 0 rfl ?_
    refine R_aload_n e_X11_disputed_1.2.2.2.2.2.1 0 rfl ?_
    refine R_getA 11 10 58 e_X11_disputed_1.2.2.2.2.2.2.1 f_X11_64 kx_0 (fun _ _ => rfl) rx_0_10 (by decide) ?_
    refine R_callV (mc := 0) (ms := 0) (mc' := 0) (ms' := 0) (M' := M_X8_disputedFields) (d' := 1) (as := []) (st := [vA G 0]) 8 0 e_X11_disputed_1.2.2.2.2.2.2.2.1 (kCVof m_X8_disputedFields l_X11_337) rfl (by decide) kx_58 (by decide) (by decide) rfl rfl (by show (1 : Nat) ≤ 8; decide) ?_
    refine Run.mono h (fun r6 s7 h => ?_)
    refine R_eqs (st2 := [vI r6, vA G 0]) rfl rfl ?_
    refine R_callV (mc := 0) (ms := 0) (mc' := 0) (ms' := 0) (M' := M_X11_give) (d' := 0) (as := [vI r6]) (st := []) 11 1 e_X11_disputed_1.2.2.2.2.2.2.2.2.1 (kCVof m_X11_give l_X11_176) rfl (by decide) kx_0 (by decide) (by decide) rfl rfl (by show (0 : Nat) ≤ 8; decide) ?_
    refine S_X11_give ?_
    refine R_eqs (st2 := [vI r6]) (σ2 := (kup s7 0 0 0)) rfl rfl ?_
    exact R_ireturn e_X11_disputed_1.2.2.2.2.2.2.2.2.2 rfl h
  · replace h := h.2 (kb_f q)
    refine R_aload_n e_X11_disputed_0.2.2.2.2.1 0 rfl ?_
    refine R_iconst e_X11_disputed_0.2.2.2.2.2.1 ?_
    refine R_callV (mc := 0) (ms := 0) (mc' := 0) (ms' := 0) (M' := M_X11_deny) (d' := 0) (as := [vI 1]) (st := []) 11 1 e_X11_disputed_0.2.2.2.2.2.2.1 (kCVof m_X11_deny l_X11_132) rfl (by decide) kx_0 (by decide) (by decide) rfl rfl (by show (0 : Nat) ≤ 8; decide) ?_
    refine S_X11_deny ?_
    refine R_eqs (st2 := [vI (-1)]) (σ2 := (kup σ 0 0 1)) rfl rfl ?_
    exact R_ireturn e_X11_disputed_0.2.2.2.2.2.2.2.1 rfl h
/-! KiteLand.crosses(III)I -/
theorem e_X11_crosses_0 : decode cX11_crosses 0 = .ok (.aload_n 0, 1) ∧ decode cX11_crosses 1 = .ok (.getfield 43, 3) ∧ decode cX11_crosses 4 = .ok (.iload_n 1, 1) ∧ decode cX11_crosses 5 = .ok (.invokevirtual 238, 3) ∧ decode cX11_crosses 8 = .ok (.ifCond .eq 27, 3) ∧ decode cX11_crosses 11 = .ok (.aload_n 0, 1) ∧ decode cX11_crosses 12 = .ok (.getfield 43, 3) ∧ decode cX11_crosses 15 = .ok (.iload_n 2, 1) ∧ decode cX11_crosses 16 = .ok (.invokevirtual 238, 3) ∧ decode cX11_crosses 19 = .ok (.ifCond .eq 16, 3) := by decide +kernel
theorem e_X11_crosses_1 : decode cX11_crosses 22 = .ok (.iload_n 1, 1) ∧ decode cX11_crosses 23 = .ok (.iload_n 2, 1) ∧ decode cX11_crosses 24 = .ok (.if_icmp .eq 11, 3) ∧ decode cX11_crosses 27 = .ok (.aload_n 0, 1) ∧ decode cX11_crosses 28 = .ok (.iload_n 3, 1) ∧ decode cX11_crosses 29 = .ok (.invokevirtual 228, 3) ∧ decode cX11_crosses 32 = .ok (.ifCond .ne 9, 3) ∧ decode cX11_crosses 35 = .ok (.aload_n 0, 1) ∧ decode cX11_crosses 36 = .ok (.iconst 1, 1) ∧ decode cX11_crosses 37 = .ok (.invokevirtual 132, 3) := by decide +kernel
theorem e_X11_crosses_2 : decode cX11_crosses 40 = .ok (.ireturn, 1) ∧ decode cX11_crosses 41 = .ok (.aload_n 0, 1) ∧ decode cX11_crosses 42 = .ok (.getfield 64, 3) ∧ decode cX11_crosses 45 = .ok (.aload_n 0, 1) ∧ decode cX11_crosses 46 = .ok (.getfield 43, 3) ∧ decode cX11_crosses 49 = .ok (.iload_n 3, 1) ∧ decode cX11_crosses 50 = .ok (.invokevirtual 308, 3) ∧ decode cX11_crosses 53 = .ok (.aload_n 0, 1) ∧ decode cX11_crosses 54 = .ok (.aload_n 0, 1) ∧ decode cX11_crosses 55 = .ok (.getfield 64, 3) := by decide +kernel
theorem e_X11_crosses_3 : decode cX11_crosses 58 = .ok (.iload_n 1, 1) ∧ decode cX11_crosses 59 = .ok (.iload_n 2, 1) ∧ decode cX11_crosses 60 = .ok (.invokevirtual 340, 3) ∧ decode cX11_crosses 63 = .ok (.ifCond .eq 7, 3) ∧ decode cX11_crosses 66 = .ok (.iconst 1, 1) ∧ decode cX11_crosses 67 = .ok (.goto 4, 3) ∧ decode cX11_crosses 70 = .ok (.iconst 0, 1) ∧ decode cX11_crosses 71 = .ok (.invokevirtual 176, 3) ∧ decode cX11_crosses 74 = .ok (.ireturn, 1) := by decide +kernel
theorem S_X11_crosses {G : Kg} {σ : Kmem} {Q : Int → Kmem → Prop} {l1 l2 l3 : Int} {v : Int → Int}  (h : (wf v ∧ kco σ 5 v ∧ rI (l1)) ∧ ((¬ (sKt v (l1)) → Q (-1) (kup σ 0 0 1)) ∧ ((sKt v (l1)) → (wf v ∧ kco σ 5 v ∧ rI (l2)) ∧ ((¬ (sKt v (l2)) → Q (-1) (kup σ 0 0 1)) ∧ ((sKt v (l2)) → (rI l1) ∧ (rI l2) ∧ ((l1 = l2 → Q (-1) (kup σ 0 0 1)) ∧ (l1 ≠ l2 → (rI (l3)) ∧ (((sHr (l3)) → Run G WX M_X8_look 3 0 0 [vA G 58, vA G 5, vI l3] σ (fun r18 s19 => Run G WX M_X8_doCross 0 0 0 [vA G 58, vI l1, vI l2] s19 (fun r20 s21 => (rI r20) ∧ ((r20 = 0 → Q 0 (kup s21 0 0 0)) ∧ (r20 ≠ 0 → Q 1 (kup s21 0 0 0)))))) ∧ (¬ (sHr (l3)) → Q (-1) (kup σ 0 0 1)))))))))) : Run G WX M_X11_crosses 4 0 0 [vA G 0, vI l1, vI l2, vI l3] σ Q := by
  refine Run.of (by decide +kernel) (by show (4 : Nat) ≤ 4; decide) ?_
  show Ex G WX M_X11_crosses 4 0 0 0 [(0, vA G 0), (1, vI l1), (2, vI l2), (3, vI l3)] [] σ Q
  refine R_aload_n e_X11_crosses_0.1 0 rfl ?_
  refine R_getA 11 7 5 e_X11_crosses_0.2.1 f_X11_43 kx_0 (fun _ _ => rfl) rx_0_7 (by decide) ?_
  refine R_iload_n e_X11_crosses_0.2.2.1 1 rfl ?_
  obtain ⟨q3, h⟩ := h
  refine R_callV (mc := 0) (ms := 0) (mc' := 0) (ms' := 0) (M' := M_X0_hasKite) (d' := 0) (as := [vI l1]) (st := []) 0 1 e_X11_crosses_0.2.2.2.1 (kCVof m_X0_hasKite l_X11_238) rfl (by decide) (kC_self isC_5) (by decide) (by decide) rfl rfl (by show (0 : Nat) ≤ 8; decide) ?_
  refine Run.mono (P_X0_hasKite isC_5 q3) (fun rr ss e => ?_)
  obtain ⟨e1, e2⟩ := e
  refine R_eqs (st2 := [vI (kb (sKt v (l1)))]) (σ2 := σ) (by rw [e1]; rfl) e2 ?_
  refine R_if_eq 35 e_X11_crosses_0.2.2.2.2.1 (by decide) (kb_r _) (fun q => ?_) (fun q => ?_)
  · replace h := h.1 (kb_f q)
    refine R_aload_n e_X11_crosses_1.2.2.2.2.2.2.2.1 0 rfl ?_
    refine R_iconst e_X11_crosses_1.2.2.2.2.2.2.2.2.1 ?_
    refine R_callV (mc := 0) (ms := 0) (mc' := 0) (ms' := 0) (M' := M_X11_deny) (d' := 0) (as := [vI 1]) (st := []) 11 1 e_X11_crosses_1.2.2.2.2.2.2.2.2.2 (kCVof m_X11_deny l_X11_132) rfl (by decide) kx_0 (by decide) (by decide) rfl rfl (by show (0 : Nat) ≤ 8; decide) ?_
    refine S_X11_deny ?_
    refine R_eqs (st2 := [vI (-1)]) (σ2 := (kup σ 0 0 1)) rfl rfl ?_
    exact R_ireturn e_X11_crosses_2.1 rfl h
  · replace h := h.2 (kb_t q)
    refine R_aload_n e_X11_crosses_0.2.2.2.2.2.1 0 rfl ?_
    refine R_getA 11 7 5 e_X11_crosses_0.2.2.2.2.2.2.1 f_X11_43 kx_0 (fun _ _ => rfl) rx_0_7 (by decide) ?_
    refine R_iload_n e_X11_crosses_0.2.2.2.2.2.2.2.1 2 rfl ?_
    obtain ⟨q8, h⟩ := h
    refine R_callV (mc := 0) (ms := 0) (mc' := 0) (ms' := 0) (M' := M_X0_hasKite) (d' := 0) (as := [vI l2]) (st := []) 0 1 e_X11_crosses_0.2.2.2.2.2.2.2.2.1 (kCVof m_X0_hasKite l_X11_238) rfl (by decide) (kC_self isC_5) (by decide) (by decide) rfl rfl (by show (0 : Nat) ≤ 8; decide) ?_
    refine Run.mono (P_X0_hasKite isC_5 q8) (fun rr ss e => ?_)
    obtain ⟨e1, e2⟩ := e
    refine R_eqs (st2 := [vI (kb (sKt v (l2)))]) (σ2 := σ) (by rw [e1]; rfl) e2 ?_
    refine R_if_eq 35 e_X11_crosses_0.2.2.2.2.2.2.2.2.2 (by decide) (kb_r _) (fun q => ?_) (fun q => ?_)
    · replace h := h.1 (kb_f q)
      refine R_aload_n e_X11_crosses_1.2.2.2.2.2.2.2.1 0 rfl ?_
      refine R_iconst e_X11_crosses_1.2.2.2.2.2.2.2.2.1 ?_
      refine R_callV (mc := 0) (ms := 0) (mc' := 0) (ms' := 0) (M' := M_X11_deny) (d' := 0) (as := [vI 1]) (st := []) 11 1 e_X11_crosses_1.2.2.2.2.2.2.2.2.2 (kCVof m_X11_deny l_X11_132) rfl (by decide) kx_0 (by decide) (by decide) rfl rfl (by show (0 : Nat) ≤ 8; decide) ?_
      refine S_X11_deny ?_
      refine R_eqs (st2 := [vI (-1)]) (σ2 := (kup σ 0 0 1)) rfl rfl ?_
      exact R_ireturn e_X11_crosses_2.1 rfl h
    · replace h := h.2 (kb_t q)
      refine R_iload_n e_X11_crosses_1.1 1 rfl ?_
      refine R_iload_n e_X11_crosses_1.2.1 2 rfl ?_
      obtain ⟨q11, h⟩ := h
      obtain ⟨q12, h⟩ := h
      refine R_icmp_eq 35 e_X11_crosses_1.2.2.1 (by decide) q11 q12 (fun q => ?_) (fun q => ?_)
      · replace h := h.1 q
        refine R_aload_n e_X11_crosses_1.2.2.2.2.2.2.2.1 0 rfl ?_
        refine R_iconst e_X11_crosses_1.2.2.2.2.2.2.2.2.1 ?_
        refine R_callV (mc := 0) (ms := 0) (mc' := 0) (ms' := 0) (M' := M_X11_deny) (d' := 0) (as := [vI 1]) (st := []) 11 1 e_X11_crosses_1.2.2.2.2.2.2.2.2.2 (kCVof m_X11_deny l_X11_132) rfl (by decide) kx_0 (by decide) (by decide) rfl rfl (by show (0 : Nat) ≤ 8; decide) ?_
        refine S_X11_deny ?_
        refine R_eqs (st2 := [vI (-1)]) (σ2 := (kup σ 0 0 1)) rfl rfl ?_
        exact R_ireturn e_X11_crosses_2.1 rfl h
      · replace h := h.2 q
        refine R_aload_n e_X11_crosses_1.2.2.2.1 0 rfl ?_
        refine R_iload_n e_X11_crosses_1.2.2.2.2.1 3 rfl ?_
        obtain ⟨q17, h⟩ := h
        refine R_callV (mc := 0) (ms := 0) (mc' := 0) (ms' := 0) (M' := M_X11_isHourOfDay) (d' := 0) (as := [vI l3]) (st := []) 11 1 e_X11_crosses_1.2.2.2.2.2.1 (kCVof m_X11_isHourOfDay l_X11_228) rfl (by decide) kx_0 (by decide) (by decide) rfl rfl (by show (0 : Nat) ≤ 8; decide) ?_
        refine Run.mono (P_X11_isHourOfDay q17) (fun rr ss e => ?_)
        obtain ⟨e1, e2⟩ := e
        refine R_eqs (st2 := [vI (kb (sHr (l3)))]) (σ2 := σ) (by rw [e1]; rfl) e2 ?_
        refine R_if_ne 41 e_X11_crosses_1.2.2.2.2.2.2.1 (by decide) (kb_r _) (fun q => ?_) (fun q => ?_)
        · replace h := h.1 (kb_t q)
          refine R_aload_n e_X11_crosses_2.2.1 0 rfl ?_
          refine R_getA 11 10 58 e_X11_crosses_2.2.2.1 f_X11_64 kx_0 (fun _ _ => rfl) rx_0_10 (by decide) ?_
          refine R_aload_n e_X11_crosses_2.2.2.2.1 0 rfl ?_
          refine R_getA 11 7 5 e_X11_crosses_2.2.2.2.2.1 f_X11_43 kx_0 (fun _ _ => rfl) rx_0_7 (by decide) ?_
          refine R_iload_n e_X11_crosses_2.2.2.2.2.2.1 3 rfl ?_
          refine R_callV (mc := 0) (ms := 0) (mc' := 0) (ms' := 0) (M' := M_X8_look) (d' := 3) (as := [vA G 5, vI l3]) (st := []) 8 2 e_X11_crosses_2.2.2.2.2.2.2.1 (kCVof m_X8_look l_X11_308) rfl (by decide) kx_58 (by decide) (by decide) rfl rfl (by show (0 : Nat) ≤ 8; decide) ?_
          refine Run.mono h (fun r18 s19 h => ?_)
          refine R_eqs (st2 := []) rfl rfl ?_
          refine R_aload_n e_X11_crosses_2.2.2.2.2.2.2.2.1 0 rfl ?_
          refine R_aload_n e_X11_crosses_2.2.2.2.2.2.2.2.2.1 0 rfl ?_
          refine R_getA 11 10 58 e_X11_crosses_2.2.2.2.2.2.2.2.2.2 f_X11_64 kx_0 (fun _ _ => rfl) rx_0_10 (by decide) ?_
          refine R_iload_n e_X11_crosses_3.1 1 rfl ?_
          refine R_iload_n e_X11_crosses_3.2.1 2 rfl ?_
          refine R_callV (mc := 0) (ms := 0) (mc' := 0) (ms' := 0) (M' := M_X8_doCross) (d' := 0) (as := [vI l1, vI l2]) (st := [vA G 0]) 8 2 e_X11_crosses_3.2.2.1 (kCVof m_X8_doCross l_X11_340) rfl (by decide) kx_58 (by decide) (by decide) rfl rfl (by show (1 : Nat) ≤ 8; decide) ?_
          refine Run.mono h (fun r20 s21 h => ?_)
          refine R_eqs (st2 := [vI r20, vA G 0]) rfl rfl ?_
          obtain ⟨q22, h⟩ := h
          refine R_if_eq 70 e_X11_crosses_3.2.2.2.1 (by decide) q22  (fun q => ?_) (fun q => ?_)
          · replace h := h.1 q
            refine R_iconst e_X11_crosses_3.2.2.2.2.2.2.1 ?_
            refine R_callV (mc := 0) (ms := 0) (mc' := 0) (ms' := 0) (M' := M_X11_give) (d' := 0) (as := [vI 0]) (st := []) 11 1 e_X11_crosses_3.2.2.2.2.2.2.2.1 (kCVof m_X11_give l_X11_176) rfl (by decide) kx_0 (by decide) (by decide) rfl rfl (by show (0 : Nat) ≤ 8; decide) ?_
            refine S_X11_give ?_
            refine R_eqs (st2 := [vI 0]) (σ2 := (kup s21 0 0 0)) rfl rfl ?_
            exact R_ireturn e_X11_crosses_3.2.2.2.2.2.2.2.2 rfl h
          · replace h := h.2 q
            refine R_iconst e_X11_crosses_3.2.2.2.2.1 ?_
            refine R_goto 71 e_X11_crosses_3.2.2.2.2.2.1 (by decide) ?_
            refine R_callV (mc := 0) (ms := 0) (mc' := 0) (ms' := 0) (M' := M_X11_give) (d' := 0) (as := [vI 1]) (st := []) 11 1 e_X11_crosses_3.2.2.2.2.2.2.2.1 (kCVof m_X11_give l_X11_176) rfl (by decide) kx_0 (by decide) (by decide) rfl rfl (by show (0 : Nat) ≤ 8; decide) ?_
            refine S_X11_give ?_
            refine R_eqs (st2 := [vI 1]) (σ2 := (kup s21 0 0 0)) rfl rfl ?_
            exact R_ireturn e_X11_crosses_3.2.2.2.2.2.2.2.2 rfl h
        · replace h := h.2 (kb_f q)
          refine R_aload_n e_X11_crosses_1.2.2.2.2.2.2.2.1 0 rfl ?_
          refine R_iconst e_X11_crosses_1.2.2.2.2.2.2.2.2.1 ?_
          refine R_callV (mc := 0) (ms := 0) (mc' := 0) (ms' := 0) (M' := M_X11_deny) (d' := 0) (as := [vI 1]) (st := []) 11 1 e_X11_crosses_1.2.2.2.2.2.2.2.2.2 (kCVof m_X11_deny l_X11_132) rfl (by decide) kx_0 (by decide) (by decide) rfl rfl (by show (0 : Nat) ≤ 8; decide) ?_
          refine S_X11_deny ?_
          refine R_eqs (st2 := [vI (-1)]) (σ2 := (kup σ 0 0 1)) rfl rfl ?_
          exact R_ireturn e_X11_crosses_2.1 rfl h
/-! KiteLand.doomed()I -/
theorem e_X11_doomed_0 : decode cX11_doomed 0 = .ok (.aload_n 0, 1) ∧ decode cX11_doomed 1 = .ok (.invokevirtual 215, 3) ∧ decode cX11_doomed 4 = .ok (.aload_n 0, 1) ∧ decode cX11_doomed 5 = .ok (.aload_n 0, 1) ∧ decode cX11_doomed 6 = .ok (.getfield 64, 3) ∧ decode cX11_doomed 9 = .ok (.invokevirtual 343, 3) ∧ decode cX11_doomed 12 = .ok (.invokevirtual 176, 3) ∧ decode cX11_doomed 15 = .ok (.ireturn, 1) := by decide +kernel
theorem S_X11_doomed {G : Kg} {σ : Kmem} {Q : Int → Kmem → Prop}  (h : Run G WX M_X11_lookNow 4 0 0 [vA G 0] σ (fun r1 s2 => Run G WX M_X8_crossedSet 1 0 0 [vA G 58] s2 (fun r3 s4 => Q r3 (kup s4 0 0 0)))) : Run G WX M_X11_doomed 5 0 0 [vA G 0] σ Q := by
  refine Run.of (by decide +kernel) (by show (1 : Nat) ≤ 1; decide) ?_
  show Ex G WX M_X11_doomed 5 0 0 0 [(0, vA G 0)] [] σ Q
  refine R_aload_n e_X11_doomed_0.1 0 rfl ?_
  refine R_callV (mc := 0) (ms := 0) (mc' := 0) (ms' := 0) (M' := M_X11_lookNow) (d' := 4) (as := []) (st := []) 11 0 e_X11_doomed_0.2.1 (kCVof m_X11_lookNow l_X11_215) rfl (by decide) kx_0 (by decide) (by decide) rfl rfl (by show (0 : Nat) ≤ 8; decide) ?_
  refine Run.mono h (fun r1 s2 h => ?_)
  refine R_eqs (st2 := []) rfl rfl ?_
  refine R_aload_n e_X11_doomed_0.2.2.1 0 rfl ?_
  refine R_aload_n e_X11_doomed_0.2.2.2.1 0 rfl ?_
  refine R_getA 11 10 58 e_X11_doomed_0.2.2.2.2.1 f_X11_64 kx_0 (fun _ _ => rfl) rx_0_10 (by decide) ?_
  refine R_callV (mc := 0) (ms := 0) (mc' := 0) (ms' := 0) (M' := M_X8_crossedSet) (d' := 1) (as := []) (st := [vA G 0]) 8 0 e_X11_doomed_0.2.2.2.2.2.1 (kCVof m_X8_crossedSet l_X11_343) rfl (by decide) kx_58 (by decide) (by decide) rfl rfl (by show (1 : Nat) ≤ 8; decide) ?_
  refine Run.mono h (fun r3 s4 h => ?_)
  refine R_eqs (st2 := [vI r3, vA G 0]) rfl rfl ?_
  refine R_callV (mc := 0) (ms := 0) (mc' := 0) (ms' := 0) (M' := M_X11_give) (d' := 0) (as := [vI r3]) (st := []) 11 1 e_X11_doomed_0.2.2.2.2.2.2.1 (kCVof m_X11_give l_X11_176) rfl (by decide) kx_0 (by decide) (by decide) rfl rfl (by show (0 : Nat) ≤ 8; decide) ?_
  refine S_X11_give ?_
  refine R_eqs (st2 := [vI r3]) (σ2 := (kup s4 0 0 0)) rfl rfl ?_
  exact R_ireturn e_X11_doomed_0.2.2.2.2.2.2.2 rfl h
/-! KiteLand.lulls(I)I -/
theorem e_X11_lulls_0 : decode cX11_lulls 0 = .ok (.aload_n 0, 1) ∧ decode cX11_lulls 1 = .ok (.getfield 43, 3) ∧ decode cX11_lulls 4 = .ok (.iload_n 1, 1) ∧ decode cX11_lulls 5 = .ok (.invokevirtual 238, 3) ∧ decode cX11_lulls 8 = .ok (.ifCond .ne 9, 3) ∧ decode cX11_lulls 11 = .ok (.aload_n 0, 1) ∧ decode cX11_lulls 12 = .ok (.iconst 1, 1) ∧ decode cX11_lulls 13 = .ok (.invokevirtual 132, 3) ∧ decode cX11_lulls 16 = .ok (.ireturn, 1) ∧ decode cX11_lulls 17 = .ok (.iconst 0, 1) := by decide +kernel
theorem e_X11_lulls_1 : decode cX11_lulls 18 = .ok (.istore_n 2, 1) ∧ decode cX11_lulls 19 = .ok (.iconst 0, 1) ∧ decode cX11_lulls 20 = .ok (.istore_n 3, 1) ∧ decode cX11_lulls 21 = .ok (.iload_n 3, 1) ∧ decode cX11_lulls 22 = .ok (.bipush 12, 2) ∧ decode cX11_lulls 24 = .ok (.if_icmp .ge 39, 3) ∧ decode cX11_lulls 27 = .ok (.aload_n 0, 1) ∧ decode cX11_lulls 28 = .ok (.getfield 43, 3) ∧ decode cX11_lulls 31 = .ok (.getfield 235, 3) ∧ decode cX11_lulls 34 = .ok (.iload_n 3, 1) := by decide +kernel
theorem e_X11_lulls_2 : decode cX11_lulls 35 = .ok (.iaload, 1) ∧ decode cX11_lulls 36 = .ok (.aload_n 0, 1) ∧ decode cX11_lulls 37 = .ok (.getfield 43, 3) ∧ decode cX11_lulls 40 = .ok (.getfield 241, 3) ∧ decode cX11_lulls 43 = .ok (.iload_n 1, 1) ∧ decode cX11_lulls 44 = .ok (.aaload, 1) ∧ decode cX11_lulls 45 = .ok (.getfield 259, 3) ∧ decode cX11_lulls 48 = .ok (.if_icmp .ge 9, 3) ∧ decode cX11_lulls 51 = .ok (.iload_n 2, 1) ∧ decode cX11_lulls 52 = .ok (.iconst 1, 1) := by decide +kernel
theorem e_X11_lulls_3 : decode cX11_lulls 53 = .ok (.iload_n 3, 1) ∧ decode cX11_lulls 54 = .ok (.ishl, 1) ∧ decode cX11_lulls 55 = .ok (.ior, 1) ∧ decode cX11_lulls 56 = .ok (.istore_n 2, 1) ∧ decode cX11_lulls 57 = .ok (.iinc 3 1, 3) ∧ decode cX11_lulls 60 = .ok (.goto (-39), 3) ∧ decode cX11_lulls 63 = .ok (.aload_n 0, 1) ∧ decode cX11_lulls 64 = .ok (.iload_n 2, 1) ∧ decode cX11_lulls 65 = .ok (.invokevirtual 176, 3) ∧ decode cX11_lulls 68 = .ok (.ireturn, 1) := by decide +kernel
abbrev E_X11_lulls_21 (G : Kg) (l1 l2 l3 : Int) (σ : Kmem) (Q : Int → Kmem → Prop) : Prop := Ex G WX M_X11_lulls 1 0 0 21 [(0, vA G 0), (1, vI l1), (2, vI l2), (3, vI l3)] [] σ Q
theorem S_X11_lulls {G : Kg} {σ : Kmem} {Q : Int → Kmem → Prop} {l1 : Int} {v : Int → Int}  (h : (wf v ∧ kco σ 5 v ∧ rI (l1)) ∧ (((sKt v (l1)) → E_X11_lulls_21 G l1 0 0 σ Q) ∧ (¬ (sKt v (l1)) → Q (-1) (kup σ 0 0 1)))) : Run G WX M_X11_lulls 1 0 0 [vA G 0, vI l1] σ Q := by
  refine Run.of (by decide +kernel) (by show (2 : Nat) ≤ 4; decide) ?_
  show Ex G WX M_X11_lulls 1 0 0 0 [(0, vA G 0), (1, vI l1)] [] σ Q
  refine R_aload_n e_X11_lulls_0.1 0 rfl ?_
  refine R_getA 11 7 5 e_X11_lulls_0.2.1 f_X11_43 kx_0 (fun _ _ => rfl) rx_0_7 (by decide) ?_
  refine R_iload_n e_X11_lulls_0.2.2.1 1 rfl ?_
  obtain ⟨q3, h⟩ := h
  refine R_callV (mc := 0) (ms := 0) (mc' := 0) (ms' := 0) (M' := M_X0_hasKite) (d' := 0) (as := [vI l1]) (st := []) 0 1 e_X11_lulls_0.2.2.2.1 (kCVof m_X0_hasKite l_X11_238) rfl (by decide) (kC_self isC_5) (by decide) (by decide) rfl rfl (by show (0 : Nat) ≤ 8; decide) ?_
  refine Run.mono (P_X0_hasKite isC_5 q3) (fun rr ss e => ?_)
  obtain ⟨e1, e2⟩ := e
  refine R_eqs (st2 := [vI (kb (sKt v (l1)))]) (σ2 := σ) (by rw [e1]; rfl) e2 ?_
  refine R_if_ne 17 e_X11_lulls_0.2.2.2.2.1 (by decide) (kb_r _) (fun q => ?_) (fun q => ?_)
  · replace h := h.1 (kb_t q)
    refine R_iconst e_X11_lulls_0.2.2.2.2.2.2.2.2.2 ?_
    refine R_istore_n (ls2 := [(2, vI 0), (0, vA G 0), (1, vI l1)]) e_X11_lulls_1.1 (by decide) rfl ?_
    refine R_iconst e_X11_lulls_1.2.1 ?_
    refine R_istore_n (ls2 := [(3, vI 0), (2, vI 0), (0, vA G 0), (1, vI l1)]) e_X11_lulls_1.2.2.1 (by decide) rfl ?_
    refine R_ls (ls2 := [(0, vA G 0), (1, vI l1), (2, vI 0), (3, vI 0)]) [2, 3, 1, 0] rfl ?_
    exact h
  · replace h := h.2 (kb_f q)
    refine R_aload_n e_X11_lulls_0.2.2.2.2.2.1 0 rfl ?_
    refine R_iconst e_X11_lulls_0.2.2.2.2.2.2.1 ?_
    refine R_callV (mc := 0) (ms := 0) (mc' := 0) (ms' := 0) (M' := M_X11_deny) (d' := 0) (as := [vI 1]) (st := []) 11 1 e_X11_lulls_0.2.2.2.2.2.2.2.1 (kCVof m_X11_deny l_X11_132) rfl (by decide) kx_0 (by decide) (by decide) rfl rfl (by show (0 : Nat) ≤ 8; decide) ?_
    refine S_X11_deny ?_
    refine R_eqs (st2 := [vI (-1)]) (σ2 := (kup σ 0 0 1)) rfl rfl ?_
    exact R_ireturn e_X11_lulls_0.2.2.2.2.2.2.2.2.1 rfl h
theorem S_X11_lulls_21 {G : Kg} {σ : Kmem} {Q : Int → Kmem → Prop} {l1 l2 l3 : Int}  (h : (rI l3) ∧ ((12 ≤ l3 → Q l2 (kup σ 0 0 0)) ∧ (l3 < 12 → (0 ≤ l3 ∧ l3 < 12) ∧ (0 ≤ l1 ∧ l1 < 6) ∧ (rI (σ (5 + 2) l3)) ∧ (rI (σ (5 + 6 + l1) 5)) ∧ ((σ (5 + 6 + l1) 5 ≤ σ (5 + 2) l3 → E_X11_lulls_21 G l1 l2 (l3 + 1) σ Q) ∧ (σ (5 + 2) l3 < σ (5 + 6 + l1) 5 → E_X11_lulls_21 G l1 (kor l2 (kshl 1 l3)) (l3 + 1) σ Q))))) : E_X11_lulls_21 G l1 l2 l3 σ Q := by
  refine R_iload_n e_X11_lulls_1.2.2.2.1 3 rfl ?_
  refine R_bipush e_X11_lulls_1.2.2.2.2.1 (by decide) ?_
  obtain ⟨q6, h⟩ := h
  refine R_icmp_ge 63 e_X11_lulls_1.2.2.2.2.2.1 (by decide) q6 (by decide) (fun q => ?_) (fun q => ?_)
  · replace h := h.1 q
    refine R_aload_n e_X11_lulls_3.2.2.2.2.2.2.1 0 rfl ?_
    refine R_iload_n e_X11_lulls_3.2.2.2.2.2.2.2.1 2 rfl ?_
    refine R_callV (mc := 0) (ms := 0) (mc' := 0) (ms' := 0) (M' := M_X11_give) (d' := 0) (as := [vI l2]) (st := []) 11 1 e_X11_lulls_3.2.2.2.2.2.2.2.2.1 (kCVof m_X11_give l_X11_176) rfl (by decide) kx_0 (by decide) (by decide) rfl rfl (by show (0 : Nat) ≤ 8; decide) ?_
    refine S_X11_give ?_
    refine R_eqs (st2 := [vI l2]) (σ2 := (kup σ 0 0 0)) rfl rfl ?_
    exact R_ireturn e_X11_lulls_3.2.2.2.2.2.2.2.2.2 rfl h
  · replace h := h.2 q
    refine R_aload_n e_X11_lulls_1.2.2.2.2.2.2.1 0 rfl ?_
    refine R_getA 11 7 5 e_X11_lulls_1.2.2.2.2.2.2.2.1 f_X11_43 kx_0 (fun _ _ => rfl) rx_0_7 (by decide) ?_
    refine R_getA 0 9 (5 + 2) e_X11_lulls_1.2.2.2.2.2.2.2.2.1 f_X11_235 (kC_self isC_5) (fun _ _ => rfl) (kC_r9 isC_5) (kC_n2 isC_5) ?_
    refine R_iload_n e_X11_lulls_1.2.2.2.2.2.2.2.2.2 3 rfl ?_
    obtain ⟨q9, h⟩ := h
    refine R_iald 12 e_X11_lulls_2.1 (kC_forces isC_5) q9 ?_
    refine R_aload_n e_X11_lulls_2.2.1 0 rfl ?_
    refine R_getA 11 7 5 e_X11_lulls_2.2.2.1 f_X11_43 kx_0 (fun _ _ => rfl) rx_0_7 (by decide) ?_
    refine R_getA 0 10 (5 + 3) e_X11_lulls_2.2.2.2.1 f_X11_241 (kC_self isC_5) (fun _ _ => rfl) (kC_r10 isC_5) (kC_n3 isC_5) ?_
    refine R_iload_n e_X11_lulls_2.2.2.2.2.1 1 rfl ?_
    obtain ⟨q10, h⟩ := h
    refine R_aald 27 6 (5 + 6 + l1) e_X11_lulls_2.2.2.2.2.2.1 (by decide) (kC_kites isC_5) q10 (kC_kiteAt isC_5 q10) (kC_kiteN isC_5 q10) ?_
    refine R_getI 3 5 5 e_X11_lulls_2.2.2.2.2.2.2.1 f_X11_259 (kC_kite isC_5 q10) (fun _ _ => rfl) rfl ?_
    obtain ⟨q11, h⟩ := h
    obtain ⟨q12, h⟩ := h
    refine R_icmp_ge 57 e_X11_lulls_2.2.2.2.2.2.2.2.1 (by decide) q11 q12 (fun q => ?_) (fun q => ?_)
    · replace h := h.1 q
      refine R_iinc (ls2 := [(3, vI (l3 + 1)), (0, vA G 0), (1, vI l1), (2, vI l2)]) e_X11_lulls_3.2.2.2.2.1 3 rfl (by decide) rfl ?_
      refine R_goto 21 e_X11_lulls_3.2.2.2.2.2.1 (by decide) ?_
      refine R_ls (ls2 := [(0, vA G 0), (1, vI l1), (2, vI l2), (3, vI (l3 + 1))]) [1, 2, 3, 0] rfl ?_
      exact h
    · replace h := h.2 q
      refine R_iload_n e_X11_lulls_2.2.2.2.2.2.2.2.2.1 2 rfl ?_
      refine R_iconst e_X11_lulls_2.2.2.2.2.2.2.2.2.2 ?_
      refine R_iload_n e_X11_lulls_3.1 3 rfl ?_
      refine R_ishl e_X11_lulls_3.2.1 ?_
      refine R_ior e_X11_lulls_3.2.2.1 ?_
      refine R_istore_n (ls2 := [(2, vI (kor l2 (kshl 1 l3))), (0, vA G 0), (1, vI l1), (3, vI l3)]) e_X11_lulls_3.2.2.2.1 (by decide) rfl ?_
      refine R_iinc (ls2 := [(3, vI (l3 + 1)), (2, vI (kor l2 (kshl 1 l3))), (0, vA G 0), (1, vI l1)]) e_X11_lulls_3.2.2.2.2.1 3 rfl (by decide) rfl ?_
      refine R_goto 21 e_X11_lulls_3.2.2.2.2.2.1 (by decide) ?_
      refine R_ls (ls2 := [(0, vA G 0), (1, vI l1), (2, vI (kor l2 (kshl 1 l3))), (3, vI (l3 + 1))]) [2, 3, 1, 0] rfl ?_
      exact h
/-! KiteLand.busiest()I -/
theorem e_X11_busiest_0 : decode cX11_busiest 0 = .ok (.aload_n 0, 1) ∧ decode cX11_busiest 1 = .ok (.getfield 43, 3) ∧ decode cX11_busiest 4 = .ok (.invokevirtual 346, 3) ∧ decode cX11_busiest 7 = .ok (.ifCond .ne 10, 3) ∧ decode cX11_busiest 10 = .ok (.aload_n 0, 1) ∧ decode cX11_busiest 11 = .ok (.bipush 6, 2) ∧ decode cX11_busiest 13 = .ok (.invokevirtual 132, 3) ∧ decode cX11_busiest 16 = .ok (.ireturn, 1) ∧ decode cX11_busiest 17 = .ok (.iconst 0, 1) ∧ decode cX11_busiest 18 = .ok (.istore_n 1, 1) := by decide +kernel
theorem e_X11_busiest_1 : decode cX11_busiest 19 = .ok (.iconst (-1), 1) ∧ decode cX11_busiest 20 = .ok (.istore_n 2, 1) ∧ decode cX11_busiest 21 = .ok (.iconst 0, 1) ∧ decode cX11_busiest 22 = .ok (.istore_n 3, 1) ∧ decode cX11_busiest 23 = .ok (.iload_n 3, 1) ∧ decode cX11_busiest 24 = .ok (.bipush 12, 2) ∧ decode cX11_busiest 26 = .ok (.if_icmp .ge 41, 3) ∧ decode cX11_busiest 29 = .ok (.aload_n 0, 1) ∧ decode cX11_busiest 30 = .ok (.getfield 64, 3) ∧ decode cX11_busiest 33 = .ok (.aload_n 0, 1) := by decide +kernel
theorem e_X11_busiest_2 : decode cX11_busiest 34 = .ok (.getfield 43, 3) ∧ decode cX11_busiest 37 = .ok (.iload_n 3, 1) ∧ decode cX11_busiest 38 = .ok (.invokevirtual 308, 3) ∧ decode cX11_busiest 41 = .ok (.aload_n 0, 1) ∧ decode cX11_busiest 42 = .ok (.getfield 64, 3) ∧ decode cX11_busiest 45 = .ok (.invokevirtual 334, 3) ∧ decode cX11_busiest 48 = .ok (.istore 4, 2) ∧ decode cX11_busiest 50 = .ok (.iload 4, 2) ∧ decode cX11_busiest 52 = .ok (.iload_n 2, 1) ∧ decode cX11_busiest 53 = .ok (.if_icmp .le 8, 3) := by decide +kernel
theorem e_X11_busiest_3 : decode cX11_busiest 56 = .ok (.iload 4, 2) ∧ decode cX11_busiest 58 = .ok (.istore_n 2, 1) ∧ decode cX11_busiest 59 = .ok (.iload_n 3, 1) ∧ decode cX11_busiest 60 = .ok (.istore_n 1, 1) ∧ decode cX11_busiest 61 = .ok (.iinc 3 1, 3) ∧ decode cX11_busiest 64 = .ok (.goto (-41), 3) ∧ decode cX11_busiest 67 = .ok (.aload_n 0, 1) ∧ decode cX11_busiest 68 = .ok (.iload_n 1, 1) ∧ decode cX11_busiest 69 = .ok (.invokevirtual 176, 3) ∧ decode cX11_busiest 72 = .ok (.ireturn, 1) := by decide +kernel
abbrev E_X11_busiest_23 (G : Kg) (l1 l2 l3 : Int) (σ : Kmem) (Q : Int → Kmem → Prop) : Prop := Ex G WX M_X11_busiest 4 0 0 23 [(0, vA G 0), (1, vI l1), (2, vI l2), (3, vI l3)] [] σ Q
theorem S_X11_busiest {G : Kg} {σ : Kmem} {Q : Int → Kmem → Prop} {v : Int → Int}  (h : (wf v ∧ kco σ 5 v) ∧ ((((0 : Int) < v 0) → E_X11_busiest_23 G 0 (-1) 0 σ Q) ∧ (¬ ((0 : Int) < v 0) → Q (-1) (kup σ 0 0 6)))) : Run G WX M_X11_busiest 4 0 0 [vA G 0] σ Q := by
  refine Run.of (by decide +kernel) (by show (1 : Nat) ≤ 5; decide) ?_
  show Ex G WX M_X11_busiest 4 0 0 0 [(0, vA G 0)] [] σ Q
  refine R_aload_n e_X11_busiest_0.1 0 rfl ?_
  refine R_getA 11 7 5 e_X11_busiest_0.2.1 f_X11_43 kx_0 (fun _ _ => rfl) rx_0_7 (by decide) ?_
  obtain ⟨q3, h⟩ := h
  refine R_callV (mc := 0) (ms := 0) (mc' := 0) (ms' := 0) (M' := M_X0_hasLand) (d' := 0) (as := []) (st := []) 0 0 e_X11_busiest_0.2.2.1 (kCVof m_X0_hasLand l_X11_346) rfl (by decide) (kC_self isC_5) (by decide) (by decide) rfl rfl (by show (0 : Nat) ≤ 8; decide) ?_
  refine Run.mono (P_X0_hasLand isC_5 q3) (fun rr ss e => ?_)
  obtain ⟨e1, e2⟩ := e
  refine R_eqs (st2 := [vI (kb ((0 : Int) < v 0))]) (σ2 := σ) (by rw [e1]; rfl) e2 ?_
  refine R_if_ne 17 e_X11_busiest_0.2.2.2.1 (by decide) (kb_r _) (fun q => ?_) (fun q => ?_)
  · replace h := h.1 (kb_t q)
    refine R_iconst e_X11_busiest_0.2.2.2.2.2.2.2.2.1 ?_
    refine R_istore_n (ls2 := [(1, vI 0), (0, vA G 0)]) e_X11_busiest_0.2.2.2.2.2.2.2.2.2 (by decide) rfl ?_
    refine R_iconst e_X11_busiest_1.1 ?_
    refine R_istore_n (ls2 := [(2, vI (-1)), (1, vI 0), (0, vA G 0)]) e_X11_busiest_1.2.1 (by decide) rfl ?_
    refine R_iconst e_X11_busiest_1.2.2.1 ?_
    refine R_istore_n (ls2 := [(3, vI 0), (2, vI (-1)), (1, vI 0), (0, vA G 0)]) e_X11_busiest_1.2.2.2.1 (by decide) rfl ?_
    refine R_ls (ls2 := [(0, vA G 0), (1, vI 0), (2, vI (-1)), (3, vI 0)]) [3, 2, 1, 0] rfl ?_
    exact h
  · replace h := h.2 (kb_f q)
    refine R_aload_n e_X11_busiest_0.2.2.2.2.1 0 rfl ?_
    refine R_bipush e_X11_busiest_0.2.2.2.2.2.1 (by decide) ?_
    refine R_callV (mc := 0) (ms := 0) (mc' := 0) (ms' := 0) (M' := M_X11_deny) (d' := 0) (as := [vI 6]) (st := []) 11 1 e_X11_busiest_0.2.2.2.2.2.2.1 (kCVof m_X11_deny l_X11_132) rfl (by decide) kx_0 (by decide) (by decide) rfl rfl (by show (0 : Nat) ≤ 8; decide) ?_
    refine S_X11_deny ?_
    refine R_eqs (st2 := [vI (-1)]) (σ2 := (kup σ 0 0 6)) rfl rfl ?_
    exact R_ireturn e_X11_busiest_0.2.2.2.2.2.2.2.1 rfl h
theorem S_X11_busiest_23 {G : Kg} {σ : Kmem} {Q : Int → Kmem → Prop} {l1 l2 l3 : Int}  (h : (rI l3) ∧ ((12 ≤ l3 → Q l1 (kup σ 0 0 0)) ∧ (l3 < 12 → Run G WX M_X8_look 3 0 0 [vA G 58, vA G 5, vI l3] σ (fun r9 s10 => Run G WX M_X8_ownedFields 0 0 0 [vA G 58] s10 (fun r11 s12 => (rI r11) ∧ (rI l2) ∧ ((r11 ≤ l2 → E_X11_busiest_23 G l1 l2 (l3 + 1) s12 Q) ∧ (l2 < r11 → E_X11_busiest_23 G l3 r11 (l3 + 1) s12 Q))))))) : E_X11_busiest_23 G l1 l2 l3 σ Q := by
  refine R_iload_n e_X11_busiest_1.2.2.2.2.1 3 rfl ?_
  refine R_bipush e_X11_busiest_1.2.2.2.2.2.1 (by decide) ?_
  obtain ⟨q6, h⟩ := h
  refine R_icmp_ge 67 e_X11_busiest_1.2.2.2.2.2.2.1 (by decide) q6 (by decide) (fun q => ?_) (fun q => ?_)
  · replace h := h.1 q
    refine R_aload_n e_X11_busiest_3.2.2.2.2.2.2.1 0 rfl ?_
    refine R_iload_n e_X11_busiest_3.2.2.2.2.2.2.2.1 1 rfl ?_
    refine R_callV (mc := 0) (ms := 0) (mc' := 0) (ms' := 0) (M' := M_X11_give) (d' := 0) (as := [vI l1]) (st := []) 11 1 e_X11_busiest_3.2.2.2.2.2.2.2.2.1 (kCVof m_X11_give l_X11_176) rfl (by decide) kx_0 (by decide) (by decide) rfl rfl (by show (0 : Nat) ≤ 8; decide) ?_
    refine S_X11_give ?_
    refine R_eqs (st2 := [vI l1]) (σ2 := (kup σ 0 0 0)) rfl rfl ?_
    exact R_ireturn e_X11_busiest_3.2.2.2.2.2.2.2.2.2 rfl h
  · replace h := h.2 q
    refine R_aload_n e_X11_busiest_1.2.2.2.2.2.2.2.1 0 rfl ?_
    refine R_getA 11 10 58 e_X11_busiest_1.2.2.2.2.2.2.2.2.1 f_X11_64 kx_0 (fun _ _ => rfl) rx_0_10 (by decide) ?_
    refine R_aload_n e_X11_busiest_1.2.2.2.2.2.2.2.2.2 0 rfl ?_
    refine R_getA 11 7 5 e_X11_busiest_2.1 f_X11_43 kx_0 (fun _ _ => rfl) rx_0_7 (by decide) ?_
    refine R_iload_n e_X11_busiest_2.2.1 3 rfl ?_
    refine R_callV (mc := 0) (ms := 0) (mc' := 0) (ms' := 0) (M' := M_X8_look) (d' := 3) (as := [vA G 5, vI l3]) (st := []) 8 2 e_X11_busiest_2.2.2.1 (kCVof m_X8_look l_X11_308) rfl (by decide) kx_58 (by decide) (by decide) rfl rfl (by show (0 : Nat) ≤ 8; decide) ?_
    refine Run.mono h (fun r9 s10 h => ?_)
    refine R_eqs (st2 := []) rfl rfl ?_
    refine R_aload_n e_X11_busiest_2.2.2.2.1 0 rfl ?_
    refine R_getA 11 10 58 e_X11_busiest_2.2.2.2.2.1 f_X11_64 kx_0 (fun _ _ => rfl) rx_0_10 (by decide) ?_
    refine R_callV (mc := 0) (ms := 0) (mc' := 0) (ms' := 0) (M' := M_X8_ownedFields) (d' := 0) (as := []) (st := []) 8 0 e_X11_busiest_2.2.2.2.2.2.1 (kCVof m_X8_ownedFields l_X11_334) rfl (by decide) kx_58 (by decide) (by decide) rfl rfl (by show (0 : Nat) ≤ 8; decide) ?_
    refine Run.mono h (fun r11 s12 h => ?_)
    refine R_eqs (st2 := [vI r11]) rfl rfl ?_
    refine R_istore (ls2 := [(4, vI r11), (0, vA G 0), (1, vI l1), (2, vI l2), (3, vI l3)]) e_X11_busiest_2.2.2.2.2.2.2.1 (by decide) rfl ?_
    refine R_iload e_X11_busiest_2.2.2.2.2.2.2.2.1 0 rfl ?_
    refine R_iload_n e_X11_busiest_2.2.2.2.2.2.2.2.2.1 3 rfl ?_
    obtain ⟨q13, h⟩ := h
    obtain ⟨q14, h⟩ := h
    refine R_icmp_le 61 e_X11_busiest_2.2.2.2.2.2.2.2.2.2 (by decide) q13 q14 (fun q => ?_) (fun q => ?_)
    · replace h := h.1 q
      refine R_iinc (ls2 := [(3, vI (l3 + 1)), (4, vI r11), (0, vA G 0), (1, vI l1), (2, vI l2)]) e_X11_busiest_3.2.2.2.2.1 4 rfl (by decide) rfl ?_
      refine R_goto 23 e_X11_busiest_3.2.2.2.2.2.1 (by decide) ?_
      refine R_ls (ls2 := [(0, vA G 0), (1, vI l1), (2, vI l2), (3, vI (l3 + 1))]) [2, 3, 4, 0] rfl ?_
      exact h
    · replace h := h.2 q
      refine R_iload e_X11_busiest_3.1 0 rfl ?_
      refine R_istore_n (ls2 := [(2, vI r11), (4, vI r11), (0, vA G 0), (1, vI l1), (3, vI l3)]) e_X11_busiest_3.2.1 (by decide) rfl ?_
      refine R_iload_n e_X11_busiest_3.2.2.1 4 rfl ?_
      refine R_istore_n (ls2 := [(1, vI l3), (2, vI r11), (4, vI r11), (0, vA G 0), (3, vI l3)]) e_X11_busiest_3.2.2.2.1 (by decide) rfl ?_
      refine R_iinc (ls2 := [(3, vI (l3 + 1)), (1, vI l3), (2, vI r11), (4, vI r11), (0, vA G 0)]) e_X11_busiest_3.2.2.2.2.1 4 rfl (by decide) rfl ?_
      refine R_goto 23 e_X11_busiest_3.2.2.2.2.2.1 (by decide) ?_
      refine R_ls (ls2 := [(0, vA G 0), (1, vI l3), (2, vI r11), (3, vI (l3 + 1))]) [4, 1, 2, 0] rfl ?_
      exact h
/-! KiteLand.greatest()I -/
theorem e_X11_greatest_0 : decode cX11_greatest 0 = .ok (.aload_n 0, 1) ∧ decode cX11_greatest 1 = .ok (.invokevirtual 215, 3) ∧ decode cX11_greatest 4 = .ok (.iconst (-1), 1) ∧ decode cX11_greatest 5 = .ok (.istore_n 1, 1) ∧ decode cX11_greatest 6 = .ok (.iconst 0, 1) ∧ decode cX11_greatest 7 = .ok (.istore_n 2, 1) ∧ decode cX11_greatest 8 = .ok (.iconst 0, 1) ∧ decode cX11_greatest 9 = .ok (.istore_n 3, 1) ∧ decode cX11_greatest 10 = .ok (.iload_n 3, 1) ∧ decode cX11_greatest 11 = .ok (.aload_n 0, 1) := by decide +kernel
theorem e_X11_greatest_1 : decode cX11_greatest 12 = .ok (.getfield 43, 3) ∧ decode cX11_greatest 15 = .ok (.getfield 173, 3) ∧ decode cX11_greatest 18 = .ok (.if_icmp .ge 30, 3) ∧ decode cX11_greatest 21 = .ok (.aload_n 0, 1) ∧ decode cX11_greatest 22 = .ok (.getfield 64, 3) ∧ decode cX11_greatest 25 = .ok (.iload_n 3, 1) ∧ decode cX11_greatest 26 = .ok (.invokevirtual 331, 3) ∧ decode cX11_greatest 29 = .ok (.istore 4, 2) ∧ decode cX11_greatest 31 = .ok (.iload 4, 2) ∧ decode cX11_greatest 33 = .ok (.iload_n 2, 1) := by decide +kernel
theorem e_X11_greatest_2 : decode cX11_greatest 34 = .ok (.if_icmp .le 8, 3) ∧ decode cX11_greatest 37 = .ok (.iload 4, 2) ∧ decode cX11_greatest 39 = .ok (.istore_n 2, 1) ∧ decode cX11_greatest 40 = .ok (.iload_n 3, 1) ∧ decode cX11_greatest 41 = .ok (.istore_n 1, 1) ∧ decode cX11_greatest 42 = .ok (.iinc 3 1, 3) ∧ decode cX11_greatest 45 = .ok (.goto (-35), 3) ∧ decode cX11_greatest 48 = .ok (.iload_n 1, 1) ∧ decode cX11_greatest 49 = .ok (.iconst (-1), 1) ∧ decode cX11_greatest 50 = .ok (.if_icmp .ne 12, 3) := by decide +kernel
theorem e_X11_greatest_3 : decode cX11_greatest 53 = .ok (.aload_n 0, 1) ∧ decode cX11_greatest 54 = .ok (.bipush 6, 2) ∧ decode cX11_greatest 56 = .ok (.invokevirtual 132, 3) ∧ decode cX11_greatest 59 = .ok (.goto 8, 3) ∧ decode cX11_greatest 62 = .ok (.aload_n 0, 1) ∧ decode cX11_greatest 63 = .ok (.iload_n 1, 1) ∧ decode cX11_greatest 64 = .ok (.invokevirtual 176, 3) ∧ decode cX11_greatest 67 = .ok (.ireturn, 1) := by decide +kernel
abbrev E_X11_greatest_10 (G : Kg) (l1 l2 l3 : Int) (σ : Kmem) (Q : Int → Kmem → Prop) : Prop := Ex G WX M_X11_greatest 5 0 0 10 [(0, vA G 0), (1, vI l1), (2, vI l2), (3, vI l3)] [] σ Q
theorem S_X11_greatest {G : Kg} {σ : Kmem} {Q : Int → Kmem → Prop}  (h : Run G WX M_X11_lookNow 4 0 0 [vA G 0] σ (fun r1 s2 => E_X11_greatest_10 G (-1) 0 0 s2 Q)) : Run G WX M_X11_greatest 5 0 0 [vA G 0] σ Q := by
  refine Run.of (by decide +kernel) (by show (1 : Nat) ≤ 5; decide) ?_
  show Ex G WX M_X11_greatest 5 0 0 0 [(0, vA G 0)] [] σ Q
  refine R_aload_n e_X11_greatest_0.1 0 rfl ?_
  refine R_callV (mc := 0) (ms := 0) (mc' := 0) (ms' := 0) (M' := M_X11_lookNow) (d' := 4) (as := []) (st := []) 11 0 e_X11_greatest_0.2.1 (kCVof m_X11_lookNow l_X11_215) rfl (by decide) kx_0 (by decide) (by decide) rfl rfl (by show (0 : Nat) ≤ 8; decide) ?_
  refine Run.mono h (fun r1 s2 h => ?_)
  refine R_eqs (st2 := []) rfl rfl ?_
  refine R_iconst e_X11_greatest_0.2.2.1 ?_
  refine R_istore_n (ls2 := [(1, vI (-1)), (0, vA G 0)]) e_X11_greatest_0.2.2.2.1 (by decide) rfl ?_
  refine R_iconst e_X11_greatest_0.2.2.2.2.1 ?_
  refine R_istore_n (ls2 := [(2, vI 0), (1, vI (-1)), (0, vA G 0)]) e_X11_greatest_0.2.2.2.2.2.1 (by decide) rfl ?_
  refine R_iconst e_X11_greatest_0.2.2.2.2.2.2.1 ?_
  refine R_istore_n (ls2 := [(3, vI 0), (2, vI 0), (1, vI (-1)), (0, vA G 0)]) e_X11_greatest_0.2.2.2.2.2.2.2.1 (by decide) rfl ?_
  refine R_ls (ls2 := [(0, vA G 0), (1, vI (-1)), (2, vI 0), (3, vI 0)]) [3, 2, 1, 0] rfl ?_
  exact h
theorem S_X11_greatest_10 {G : Kg} {σ : Kmem} {Q : Int → Kmem → Prop} {l1 l2 l3 : Int}  (h : (rI l3) ∧ (rI (σ 5 5)) ∧ ((σ 5 5 ≤ l3 → (rI l1) ∧ ((l1 ≠ -1 → Q l1 (kup σ 0 0 0)) ∧ (l1 = -1 → Q (-1) (kup σ 0 0 6)))) ∧ (l3 < σ 5 5 → Run G WX M_X8_fieldsOf 0 0 0 [vA G 58, vI l3] σ (fun r10 s11 => (rI r10) ∧ (rI l2) ∧ ((r10 ≤ l2 → E_X11_greatest_10 G l1 l2 (l3 + 1) s11 Q) ∧ (l2 < r10 → E_X11_greatest_10 G l3 r10 (l3 + 1) s11 Q)))))) : E_X11_greatest_10 G l1 l2 l3 σ Q := by
  refine R_iload_n e_X11_greatest_0.2.2.2.2.2.2.2.2.1 3 rfl ?_
  refine R_aload_n e_X11_greatest_0.2.2.2.2.2.2.2.2.2 0 rfl ?_
  refine R_getA 11 7 5 e_X11_greatest_1.1 f_X11_43 kx_0 (fun _ _ => rfl) rx_0_7 (by decide) ?_
  refine R_getI 0 5 5 e_X11_greatest_1.2.1 f_X11_173 (kC_self isC_5) (fun _ _ => rfl) rfl ?_
  obtain ⟨q3, h⟩ := h
  obtain ⟨q4, h⟩ := h
  refine R_icmp_ge 48 e_X11_greatest_1.2.2.1 (by decide) q3 q4 (fun q => ?_) (fun q => ?_)
  · replace h := h.1 q
    refine R_iload_n e_X11_greatest_2.2.2.2.2.2.2.2.1 1 rfl ?_
    refine R_iconst e_X11_greatest_2.2.2.2.2.2.2.2.2.1 ?_
    obtain ⟨q5, h⟩ := h
    refine R_icmp_ne 62 e_X11_greatest_2.2.2.2.2.2.2.2.2.2 (by decide) q5 (by decide) (fun q => ?_) (fun q => ?_)
    · replace h := h.1 q
      refine R_aload_n e_X11_greatest_3.2.2.2.2.1 0 rfl ?_
      refine R_iload_n e_X11_greatest_3.2.2.2.2.2.1 1 rfl ?_
      refine R_callV (mc := 0) (ms := 0) (mc' := 0) (ms' := 0) (M' := M_X11_give) (d' := 0) (as := [vI l1]) (st := []) 11 1 e_X11_greatest_3.2.2.2.2.2.2.1 (kCVof m_X11_give l_X11_176) rfl (by decide) kx_0 (by decide) (by decide) rfl rfl (by show (0 : Nat) ≤ 8; decide) ?_
      refine S_X11_give ?_
      refine R_eqs (st2 := [vI l1]) (σ2 := (kup σ 0 0 0)) rfl rfl ?_
      exact R_ireturn e_X11_greatest_3.2.2.2.2.2.2.2 rfl h
    · replace h := h.2 q
      refine R_aload_n e_X11_greatest_3.1 0 rfl ?_
      refine R_bipush e_X11_greatest_3.2.1 (by decide) ?_
      refine R_callV (mc := 0) (ms := 0) (mc' := 0) (ms' := 0) (M' := M_X11_deny) (d' := 0) (as := [vI 6]) (st := []) 11 1 e_X11_greatest_3.2.2.1 (kCVof m_X11_deny l_X11_132) rfl (by decide) kx_0 (by decide) (by decide) rfl rfl (by show (0 : Nat) ≤ 8; decide) ?_
      refine S_X11_deny ?_
      refine R_eqs (st2 := [vI (-1)]) (σ2 := (kup σ 0 0 6)) rfl rfl ?_
      refine R_goto 67 e_X11_greatest_3.2.2.2.1 (by decide) ?_
      exact R_ireturn e_X11_greatest_3.2.2.2.2.2.2.2 rfl h
  · replace h := h.2 q
    refine R_aload_n e_X11_greatest_1.2.2.2.1 0 rfl ?_
    refine R_getA 11 10 58 e_X11_greatest_1.2.2.2.2.1 f_X11_64 kx_0 (fun _ _ => rfl) rx_0_10 (by decide) ?_
    refine R_iload_n e_X11_greatest_1.2.2.2.2.2.1 3 rfl ?_
    refine R_callV (mc := 0) (ms := 0) (mc' := 0) (ms' := 0) (M' := M_X8_fieldsOf) (d' := 0) (as := [vI l3]) (st := []) 8 1 e_X11_greatest_1.2.2.2.2.2.2.1 (kCVof m_X8_fieldsOf l_X11_331) rfl (by decide) kx_58 (by decide) (by decide) rfl rfl (by show (0 : Nat) ≤ 8; decide) ?_
    refine Run.mono h (fun r10 s11 h => ?_)
    refine R_eqs (st2 := [vI r10]) rfl rfl ?_
    refine R_istore (ls2 := [(4, vI r10), (0, vA G 0), (1, vI l1), (2, vI l2), (3, vI l3)]) e_X11_greatest_1.2.2.2.2.2.2.2.1 (by decide) rfl ?_
    refine R_iload e_X11_greatest_1.2.2.2.2.2.2.2.2.1 0 rfl ?_
    refine R_iload_n e_X11_greatest_1.2.2.2.2.2.2.2.2.2 3 rfl ?_
    obtain ⟨q12, h⟩ := h
    obtain ⟨q13, h⟩ := h
    refine R_icmp_le 42 e_X11_greatest_2.1 (by decide) q12 q13 (fun q => ?_) (fun q => ?_)
    · replace h := h.1 q
      refine R_iinc (ls2 := [(3, vI (l3 + 1)), (4, vI r10), (0, vA G 0), (1, vI l1), (2, vI l2)]) e_X11_greatest_2.2.2.2.2.2.1 4 rfl (by decide) rfl ?_
      refine R_goto 10 e_X11_greatest_2.2.2.2.2.2.2.1 (by decide) ?_
      refine R_ls (ls2 := [(0, vA G 0), (1, vI l1), (2, vI l2), (3, vI (l3 + 1))]) [2, 3, 4, 0] rfl ?_
      exact h
    · replace h := h.2 q
      refine R_iload e_X11_greatest_2.2.1 0 rfl ?_
      refine R_istore_n (ls2 := [(2, vI r10), (4, vI r10), (0, vA G 0), (1, vI l1), (3, vI l3)]) e_X11_greatest_2.2.2.1 (by decide) rfl ?_
      refine R_iload_n e_X11_greatest_2.2.2.2.1 4 rfl ?_
      refine R_istore_n (ls2 := [(1, vI l3), (2, vI r10), (4, vI r10), (0, vA G 0), (3, vI l3)]) e_X11_greatest_2.2.2.2.2.1 (by decide) rfl ?_
      refine R_iinc (ls2 := [(3, vI (l3 + 1)), (1, vI l3), (2, vI r10), (4, vI r10), (0, vA G 0)]) e_X11_greatest_2.2.2.2.2.2.1 4 rfl (by decide) rfl ?_
      refine R_goto 10 e_X11_greatest_2.2.2.2.2.2.2.1 (by decide) ?_
      refine R_ls (ls2 := [(0, vA G 0), (1, vI l3), (2, vI r10), (3, vI (l3 + 1))]) [4, 1, 2, 0] rfl ?_
      exact h
/-! KiteLand.hour(I)I -/
theorem e_X11_hour_0 : decode cX11_hour 0 = .ok (.iload_n 1, 1) ∧ decode cX11_hour 1 = .ok (.iconst 1, 1) ∧ decode cX11_hour 2 = .ok (.if_icmp .lt 9, 3) ∧ decode cX11_hour 5 = .ok (.iload_n 1, 1) ∧ decode cX11_hour 6 = .ok (.bipush 99, 2) ∧ decode cX11_hour 8 = .ok (.if_icmp .le 9, 3) ∧ decode cX11_hour 11 = .ok (.aload_n 0, 1) ∧ decode cX11_hour 12 = .ok (.iconst 1, 1) ∧ decode cX11_hour 13 = .ok (.invokevirtual 132, 3) ∧ decode cX11_hour 16 = .ok (.ireturn, 1) := by decide +kernel
theorem e_X11_hour_1 : decode cX11_hour 17 = .ok (.aload_n 0, 1) ∧ decode cX11_hour 18 = .ok (.getfield 43, 3) ∧ decode cX11_hour 21 = .ok (.getfield 212, 3) ∧ decode cX11_hour 24 = .ok (.iload_n 1, 1) ∧ decode cX11_hour 25 = .ok (.iadd, 1) ∧ decode cX11_hour 26 = .ok (.sipush 9999, 3) ∧ decode cX11_hour 29 = .ok (.if_icmp .le 9, 3) ∧ decode cX11_hour 32 = .ok (.aload_n 0, 1) ∧ decode cX11_hour 33 = .ok (.iconst 4, 1) ∧ decode cX11_hour 34 = .ok (.invokevirtual 132, 3) := by decide +kernel
theorem e_X11_hour_2 : decode cX11_hour 37 = .ok (.ireturn, 1) ∧ decode cX11_hour 38 = .ok (.aload_n 0, 1) ∧ decode cX11_hour 39 = .ok (.aload_n 0, 1) ∧ decode cX11_hour 40 = .ok (.getfield 43, 3) ∧ decode cX11_hour 43 = .ok (.aload_n 0, 1) ∧ decode cX11_hour 44 = .ok (.getfield 64, 3) ∧ decode cX11_hour 47 = .ok (.iload_n 1, 1) ∧ decode cX11_hour 48 = .ok (.invokevirtual 349, 3) ∧ decode cX11_hour 51 = .ok (.invokevirtual 176, 3) ∧ decode cX11_hour 54 = .ok (.ireturn, 1) := by decide +kernel
theorem S_X11_hour {G : Kg} {σ : Kmem} {Q : Int → Kmem → Prop} {l1 : Int}  (h : (rI l1) ∧ ((l1 < 1 → Q (-1) (kup σ 0 0 1)) ∧ (1 ≤ l1 → ((l1 ≤ 99 → (rI ((σ 5 4) + l1)) ∧ (((σ 5 4) + l1 ≤ 9999 → Run G WX M_X0_goBy 4 0 0 [vA G 5, vA G 58, vI l1] σ (fun r5 s6 => Q r5 (kup s6 0 0 0))) ∧ (9999 < (σ 5 4) + l1 → Q (-1) (kup σ 0 0 4)))) ∧ (99 < l1 → Q (-1) (kup σ 0 0 1)))))) : Run G WX M_X11_hour 5 0 0 [vA G 0, vI l1] σ Q := by
  refine Run.of (by decide +kernel) (by show (2 : Nat) ≤ 2; decide) ?_
  show Ex G WX M_X11_hour 5 0 0 0 [(0, vA G 0), (1, vI l1)] [] σ Q
  refine R_iload_n e_X11_hour_0.1 1 rfl ?_
  refine R_iconst e_X11_hour_0.2.1 ?_
  obtain ⟨q1, h⟩ := h
  refine R_icmp_lt 11 e_X11_hour_0.2.2.1 (by decide) q1 (by decide) (fun q => ?_) (fun q => ?_)
  · replace h := h.1 q
    refine R_aload_n e_X11_hour_0.2.2.2.2.2.2.1 0 rfl ?_
    refine R_iconst e_X11_hour_0.2.2.2.2.2.2.2.1 ?_
    refine R_callV (mc := 0) (ms := 0) (mc' := 0) (ms' := 0) (M' := M_X11_deny) (d' := 0) (as := [vI 1]) (st := []) 11 1 e_X11_hour_0.2.2.2.2.2.2.2.2.1 (kCVof m_X11_deny l_X11_132) rfl (by decide) kx_0 (by decide) (by decide) rfl rfl (by show (0 : Nat) ≤ 8; decide) ?_
    refine S_X11_deny ?_
    refine R_eqs (st2 := [vI (-1)]) (σ2 := (kup σ 0 0 1)) rfl rfl ?_
    exact R_ireturn e_X11_hour_0.2.2.2.2.2.2.2.2.2 rfl h
  · replace h := h.2 q
    refine R_iload_n e_X11_hour_0.2.2.2.1 1 rfl ?_
    refine R_bipush e_X11_hour_0.2.2.2.2.1 (by decide) ?_
    refine R_icmp_le 17 e_X11_hour_0.2.2.2.2.2.1 (by decide) q1 (by decide) (fun q => ?_) (fun q => ?_)
    · replace h := h.1 q
      refine R_aload_n e_X11_hour_1.1 0 rfl ?_
      refine R_getA 11 7 5 e_X11_hour_1.2.1 f_X11_43 kx_0 (fun _ _ => rfl) rx_0_7 (by decide) ?_
      refine R_getI 0 4 4 e_X11_hour_1.2.2.1 f_X11_212 (kC_self isC_5) (fun _ _ => rfl) rfl ?_
      refine R_iload_n e_X11_hour_1.2.2.2.1 1 rfl ?_
      refine R_iadd e_X11_hour_1.2.2.2.2.1 ?_
      refine R_sipush e_X11_hour_1.2.2.2.2.2.1 (by decide) ?_
      obtain ⟨q4, h⟩ := h
      refine R_icmp_le 38 e_X11_hour_1.2.2.2.2.2.2.1 (by decide) q4 (by decide) (fun q => ?_) (fun q => ?_)
      · replace h := h.1 q
        refine R_aload_n e_X11_hour_2.2.1 0 rfl ?_
        refine R_aload_n e_X11_hour_2.2.2.1 0 rfl ?_
        refine R_getA 11 7 5 e_X11_hour_2.2.2.2.1 f_X11_43 kx_0 (fun _ _ => rfl) rx_0_7 (by decide) ?_
        refine R_aload_n e_X11_hour_2.2.2.2.2.1 0 rfl ?_
        refine R_getA 11 10 58 e_X11_hour_2.2.2.2.2.2.1 f_X11_64 kx_0 (fun _ _ => rfl) rx_0_10 (by decide) ?_
        refine R_iload_n e_X11_hour_2.2.2.2.2.2.2.1 1 rfl ?_
        refine R_callV (mc := 0) (ms := 0) (mc' := 0) (ms' := 0) (M' := M_X0_goBy) (d' := 4) (as := [vA G 58, vI l1]) (st := [vA G 0]) 0 2 e_X11_hour_2.2.2.2.2.2.2.2.1 (kCVof m_X0_goBy l_X11_349) rfl (by decide) (kC_self isC_5) (by decide) (by decide) rfl rfl (by show (1 : Nat) ≤ 8; decide) ?_
        refine Run.mono h (fun r5 s6 h => ?_)
        refine R_eqs (st2 := [vI r5, vA G 0]) rfl rfl ?_
        refine R_callV (mc := 0) (ms := 0) (mc' := 0) (ms' := 0) (M' := M_X11_give) (d' := 0) (as := [vI r5]) (st := []) 11 1 e_X11_hour_2.2.2.2.2.2.2.2.2.1 (kCVof m_X11_give l_X11_176) rfl (by decide) kx_0 (by decide) (by decide) rfl rfl (by show (0 : Nat) ≤ 8; decide) ?_
        refine S_X11_give ?_
        refine R_eqs (st2 := [vI r5]) (σ2 := (kup s6 0 0 0)) rfl rfl ?_
        exact R_ireturn e_X11_hour_2.2.2.2.2.2.2.2.2.2 rfl h
      · replace h := h.2 q
        refine R_aload_n e_X11_hour_1.2.2.2.2.2.2.2.1 0 rfl ?_
        refine R_iconst e_X11_hour_1.2.2.2.2.2.2.2.2.1 ?_
        refine R_callV (mc := 0) (ms := 0) (mc' := 0) (ms' := 0) (M' := M_X11_deny) (d' := 0) (as := [vI 4]) (st := []) 11 1 e_X11_hour_1.2.2.2.2.2.2.2.2.2 (kCVof m_X11_deny l_X11_132) rfl (by decide) kx_0 (by decide) (by decide) rfl rfl (by show (0 : Nat) ≤ 8; decide) ?_
        refine S_X11_deny ?_
        refine R_eqs (st2 := [vI (-1)]) (σ2 := (kup σ 0 0 4)) rfl rfl ?_
        exact R_ireturn e_X11_hour_2.1 rfl h
    · replace h := h.2 q
      refine R_aload_n e_X11_hour_0.2.2.2.2.2.2.1 0 rfl ?_
      refine R_iconst e_X11_hour_0.2.2.2.2.2.2.2.1 ?_
      refine R_callV (mc := 0) (ms := 0) (mc' := 0) (ms' := 0) (M' := M_X11_deny) (d' := 0) (as := [vI 1]) (st := []) 11 1 e_X11_hour_0.2.2.2.2.2.2.2.2.1 (kCVof m_X11_deny l_X11_132) rfl (by decide) kx_0 (by decide) (by decide) rfl rfl (by show (0 : Nat) ≤ 8; decide) ?_
      refine S_X11_deny ?_
      refine R_eqs (st2 := [vI (-1)]) (σ2 := (kup σ 0 0 1)) rfl rfl ?_
      exact R_ireturn e_X11_hour_0.2.2.2.2.2.2.2.2.2 rfl h
/-! KiteLand.walk(II)I -/
theorem e_X11_walk_0 : decode cX11_walk 0 = .ok (.aload_n 0, 1) ∧ decode cX11_walk 1 = .ok (.getfield 43, 3) ∧ decode cX11_walk 4 = .ok (.iload_n 1, 1) ∧ decode cX11_walk 5 = .ok (.invokevirtual 238, 3) ∧ decode cX11_walk 8 = .ok (.ifCond .eq 12, 3) ∧ decode cX11_walk 11 = .ok (.iload_n 2, 1) ∧ decode cX11_walk 12 = .ok (.ifCond .lt 8, 3) ∧ decode cX11_walk 15 = .ok (.iload_n 2, 1) ∧ decode cX11_walk 16 = .ok (.iconst 5, 1) ∧ decode cX11_walk 17 = .ok (.if_icmp .lt 9, 3) := by decide +kernel
theorem e_X11_walk_1 : decode cX11_walk 20 = .ok (.aload_n 0, 1) ∧ decode cX11_walk 21 = .ok (.iconst 1, 1) ∧ decode cX11_walk 22 = .ok (.invokevirtual 132, 3) ∧ decode cX11_walk 25 = .ok (.ireturn, 1) ∧ decode cX11_walk 26 = .ok (.aload_n 0, 1) ∧ decode cX11_walk 27 = .ok (.getfield 43, 3) ∧ decode cX11_walk 30 = .ok (.iload_n 1, 1) ∧ decode cX11_walk 31 = .ok (.iload_n 2, 1) ∧ decode cX11_walk 32 = .ok (.invokevirtual 353, 3) ∧ decode cX11_walk 35 = .ok (.ifCond .ne 10, 3) := by decide +kernel
theorem e_X11_walk_2 : decode cX11_walk 38 = .ok (.aload_n 0, 1) ∧ decode cX11_walk 39 = .ok (.bipush 7, 2) ∧ decode cX11_walk 41 = .ok (.invokevirtual 132, 3) ∧ decode cX11_walk 44 = .ok (.ireturn, 1) ∧ decode cX11_walk 45 = .ok (.aload_n 0, 1) ∧ decode cX11_walk 46 = .ok (.getfield 43, 3) ∧ decode cX11_walk 49 = .ok (.iload_n 1, 1) ∧ decode cX11_walk 50 = .ok (.iload_n 2, 1) ∧ decode cX11_walk 51 = .ok (.invokevirtual 356, 3) ∧ decode cX11_walk 54 = .ok (.aload_n 0, 1) := by decide +kernel
theorem e_X11_walk_3 : decode cX11_walk 55 = .ok (.aload_n 0, 1) ∧ decode cX11_walk 56 = .ok (.aload_n 0, 1) ∧ decode cX11_walk 57 = .ok (.getfield 43, 3) ∧ decode cX11_walk 60 = .ok (.getfield 241, 3) ∧ decode cX11_walk 63 = .ok (.iload_n 1, 1) ∧ decode cX11_walk 64 = .ok (.aaload, 1) ∧ decode cX11_walk 65 = .ok (.getfield 245, 3) ∧ decode cX11_walk 68 = .ok (.aload_n 0, 1) ∧ decode cX11_walk 69 = .ok (.getfield 43, 3) ∧ decode cX11_walk 72 = .ok (.getfield 241, 3) := by decide +kernel
theorem e_X11_walk_4 : decode cX11_walk 75 = .ok (.iload_n 1, 1) ∧ decode cX11_walk 76 = .ok (.aaload, 1) ∧ decode cX11_walk 77 = .ok (.getfield 250, 3) ∧ decode cX11_walk 80 = .ok (.invokevirtual 359, 3) ∧ decode cX11_walk 83 = .ok (.invokevirtual 176, 3) ∧ decode cX11_walk 86 = .ok (.ireturn, 1) := by decide +kernel
theorem S_X11_walk {G : Kg} {σ : Kmem} {Q : Int → Kmem → Prop} {l1 l2 : Int} {v : Int → Int}  (h : (wf v ∧ kco σ 5 v ∧ rI (l1)) ∧ ((¬ (sKt v (l1)) → Q (-1) (kup σ 0 0 1)) ∧ ((sKt v (l1)) → (rI l2) ∧ ((l2 < 0 → Q (-1) (kup σ 0 0 1)) ∧ (0 ≤ l2 → ((l2 < 5 → (wf v ∧ kco σ 5 v ∧ sKt v (l1) ∧ (0 : Int) ≤ l2 ∧ (l2 : Int) < 5) ∧ (((sMay v (l1) (l2)) → Run G WX M_X0_stepHand 0 0 0 [vA G 5, vI l1, vI l2] σ (fun r12 s13 => (0 ≤ l1 ∧ l1 < 6) ∧ (0 ≤ l1 ∧ l1 < 6) ∧ Q (((s13 (5 + 6 + l1) 2) * 10) + (s13 (5 + 6 + l1) 1)) (kup s13 0 0 0))) ∧ (¬ (sMay v (l1) (l2)) → Q (-1) (kup σ 0 0 7)))) ∧ (5 ≤ l2 → Q (-1) (kup σ 0 0 1)))))))) : Run G WX M_X11_walk 3 0 0 [vA G 0, vI l1, vI l2] σ Q := by
  refine Run.of (by decide +kernel) (by show (3 : Nat) ≤ 3; decide) ?_
  show Ex G WX M_X11_walk 3 0 0 0 [(0, vA G 0), (1, vI l1), (2, vI l2)] [] σ Q
  refine R_aload_n e_X11_walk_0.1 0 rfl ?_
  refine R_getA 11 7 5 e_X11_walk_0.2.1 f_X11_43 kx_0 (fun _ _ => rfl) rx_0_7 (by decide) ?_
  refine R_iload_n e_X11_walk_0.2.2.1 1 rfl ?_
  obtain ⟨q3, h⟩ := h
  refine R_callV (mc := 0) (ms := 0) (mc' := 0) (ms' := 0) (M' := M_X0_hasKite) (d' := 0) (as := [vI l1]) (st := []) 0 1 e_X11_walk_0.2.2.2.1 (kCVof m_X0_hasKite l_X11_238) rfl (by decide) (kC_self isC_5) (by decide) (by decide) rfl rfl (by show (0 : Nat) ≤ 8; decide) ?_
  refine Run.mono (P_X0_hasKite isC_5 q3) (fun rr ss e => ?_)
  obtain ⟨e1, e2⟩ := e
  refine R_eqs (st2 := [vI (kb (sKt v (l1)))]) (σ2 := σ) (by rw [e1]; rfl) e2 ?_
  refine R_if_eq 20 e_X11_walk_0.2.2.2.2.1 (by decide) (kb_r _) (fun q => ?_) (fun q => ?_)
  · replace h := h.1 (kb_f q)
    refine R_aload_n e_X11_walk_1.1 0 rfl ?_
    refine R_iconst e_X11_walk_1.2.1 ?_
    refine R_callV (mc := 0) (ms := 0) (mc' := 0) (ms' := 0) (M' := M_X11_deny) (d' := 0) (as := [vI 1]) (st := []) 11 1 e_X11_walk_1.2.2.1 (kCVof m_X11_deny l_X11_132) rfl (by decide) kx_0 (by decide) (by decide) rfl rfl (by show (0 : Nat) ≤ 8; decide) ?_
    refine S_X11_deny ?_
    refine R_eqs (st2 := [vI (-1)]) (σ2 := (kup σ 0 0 1)) rfl rfl ?_
    exact R_ireturn e_X11_walk_1.2.2.2.1 rfl h
  · replace h := h.2 (kb_t q)
    refine R_iload_n e_X11_walk_0.2.2.2.2.2.1 2 rfl ?_
    obtain ⟨q6, h⟩ := h
    refine R_if_lt 20 e_X11_walk_0.2.2.2.2.2.2.1 (by decide) q6  (fun q => ?_) (fun q => ?_)
    · replace h := h.1 q
      refine R_aload_n e_X11_walk_1.1 0 rfl ?_
      refine R_iconst e_X11_walk_1.2.1 ?_
      refine R_callV (mc := 0) (ms := 0) (mc' := 0) (ms' := 0) (M' := M_X11_deny) (d' := 0) (as := [vI 1]) (st := []) 11 1 e_X11_walk_1.2.2.1 (kCVof m_X11_deny l_X11_132) rfl (by decide) kx_0 (by decide) (by decide) rfl rfl (by show (0 : Nat) ≤ 8; decide) ?_
      refine S_X11_deny ?_
      refine R_eqs (st2 := [vI (-1)]) (σ2 := (kup σ 0 0 1)) rfl rfl ?_
      exact R_ireturn e_X11_walk_1.2.2.2.1 rfl h
    · replace h := h.2 q
      refine R_iload_n e_X11_walk_0.2.2.2.2.2.2.2.1 2 rfl ?_
      refine R_iconst e_X11_walk_0.2.2.2.2.2.2.2.2.1 ?_
      refine R_icmp_lt 26 e_X11_walk_0.2.2.2.2.2.2.2.2.2 (by decide) q6 (by decide) (fun q => ?_) (fun q => ?_)
      · replace h := h.1 q
        refine R_aload_n e_X11_walk_1.2.2.2.2.1 0 rfl ?_
        refine R_getA 11 7 5 e_X11_walk_1.2.2.2.2.2.1 f_X11_43 kx_0 (fun _ _ => rfl) rx_0_7 (by decide) ?_
        refine R_iload_n e_X11_walk_1.2.2.2.2.2.2.1 1 rfl ?_
        refine R_iload_n e_X11_walk_1.2.2.2.2.2.2.2.1 2 rfl ?_
        obtain ⟨q11, h⟩ := h
        refine R_callV (mc := 0) (ms := 0) (mc' := 0) (ms' := 0) (M' := M_X0_mayStep) (d' := 2) (as := [vI l1, vI l2]) (st := []) 0 2 e_X11_walk_1.2.2.2.2.2.2.2.2.1 (kCVof m_X0_mayStep l_X11_353) rfl (by decide) (kC_self isC_5) (by decide) (by decide) rfl rfl (by show (0 : Nat) ≤ 8; decide) ?_
        refine Run.mono (P_X0_mayStep isC_5 q11) (fun rr ss e => ?_)
        obtain ⟨e1, e2⟩ := e
        refine R_eqs (st2 := [vI (kb (sMay v (l1) (l2)))]) (σ2 := σ) (by rw [e1]; rfl) e2 ?_
        refine R_if_ne 45 e_X11_walk_1.2.2.2.2.2.2.2.2.2 (by decide) (kb_r _) (fun q => ?_) (fun q => ?_)
        · replace h := h.1 (kb_t q)
          refine R_aload_n e_X11_walk_2.2.2.2.2.1 0 rfl ?_
          refine R_getA 11 7 5 e_X11_walk_2.2.2.2.2.2.1 f_X11_43 kx_0 (fun _ _ => rfl) rx_0_7 (by decide) ?_
          refine R_iload_n e_X11_walk_2.2.2.2.2.2.2.1 1 rfl ?_
          refine R_iload_n e_X11_walk_2.2.2.2.2.2.2.2.1 2 rfl ?_
          refine R_callV (mc := 0) (ms := 0) (mc' := 0) (ms' := 0) (M' := M_X0_stepHand) (d' := 0) (as := [vI l1, vI l2]) (st := []) 0 2 e_X11_walk_2.2.2.2.2.2.2.2.2.1 (kCVof m_X0_stepHand l_X11_356) rfl (by decide) (kC_self isC_5) (by decide) (by decide) rfl rfl (by show (0 : Nat) ≤ 8; decide) ?_
          refine Run.mono h (fun r12 s13 h => ?_)
          refine R_eqs (st2 := []) rfl rfl ?_
          refine R_aload_n e_X11_walk_2.2.2.2.2.2.2.2.2.2 0 rfl ?_
          refine R_aload_n e_X11_walk_3.1 0 rfl ?_
          refine R_aload_n e_X11_walk_3.2.1 0 rfl ?_
          refine R_getA 11 7 5 e_X11_walk_3.2.2.1 f_X11_43 kx_0 (fun _ _ => rfl) rx_0_7 (by decide) ?_
          refine R_getA 0 10 (5 + 3) e_X11_walk_3.2.2.2.1 f_X11_241 (kC_self isC_5) (fun _ _ => rfl) (kC_r10 isC_5) (kC_n3 isC_5) ?_
          refine R_iload_n e_X11_walk_3.2.2.2.2.1 1 rfl ?_
          obtain ⟨q14, h⟩ := h
          refine R_aald 27 6 (5 + 6 + l1) e_X11_walk_3.2.2.2.2.2.1 (by decide) (kC_kites isC_5) q14 (kC_kiteAt isC_5 q14) (kC_kiteN isC_5 q14) ?_
          refine R_getI 3 1 1 e_X11_walk_3.2.2.2.2.2.2.1 f_X11_245 (kC_kite isC_5 q14) (fun _ _ => rfl) rfl ?_
          refine R_aload_n e_X11_walk_3.2.2.2.2.2.2.2.1 0 rfl ?_
          refine R_getA 11 7 5 e_X11_walk_3.2.2.2.2.2.2.2.2.1 f_X11_43 kx_0 (fun _ _ => rfl) rx_0_7 (by decide) ?_
          refine R_getA 0 10 (5 + 3) e_X11_walk_3.2.2.2.2.2.2.2.2.2 f_X11_241 (kC_self isC_5) (fun _ _ => rfl) (kC_r10 isC_5) (kC_n3 isC_5) ?_
          refine R_iload_n e_X11_walk_4.1 1 rfl ?_
          obtain ⟨q15, h⟩ := h
          refine R_aald 27 6 (5 + 6 + l1) e_X11_walk_4.2.1 (by decide) (kC_kites isC_5) q15 (kC_kiteAt isC_5 q15) (kC_kiteN isC_5 q15) ?_
          refine R_getI 3 2 2 e_X11_walk_4.2.2.1 f_X11_250 (kC_kite isC_5 q15) (fun _ _ => rfl) rfl ?_
          refine R_callV (mc := 0) (ms := 0) (mc' := 0) (ms' := 0) (M' := M_X11_fieldNumber) (d' := 0) (as := [vI (s13 (5 + 6 + l1) 1), vI (s13 (5 + 6 + l1) 2)]) (st := [vA G 0]) 11 2 e_X11_walk_4.2.2.2.1 (kCVof m_X11_fieldNumber l_X11_359) rfl (by decide) kx_0 (by decide) (by decide) rfl rfl (by show (1 : Nat) ≤ 8; decide) ?_
          refine S_X11_fieldNumber ?_
          refine R_eqs (st2 := [vI (((s13 (5 + 6 + l1) 2) * 10) + (s13 (5 + 6 + l1) 1)), vA G 0]) (σ2 := s13) rfl rfl ?_
          refine R_callV (mc := 0) (ms := 0) (mc' := 0) (ms' := 0) (M' := M_X11_give) (d' := 0) (as := [vI (((s13 (5 + 6 + l1) 2) * 10) + (s13 (5 + 6 + l1) 1))]) (st := []) 11 1 e_X11_walk_4.2.2.2.2.1 (kCVof m_X11_give l_X11_176) rfl (by decide) kx_0 (by decide) (by decide) rfl rfl (by show (0 : Nat) ≤ 8; decide) ?_
          refine S_X11_give ?_
          refine R_eqs (st2 := [vI (((s13 (5 + 6 + l1) 2) * 10) + (s13 (5 + 6 + l1) 1))]) (σ2 := (kup s13 0 0 0)) rfl rfl ?_
          exact R_ireturn e_X11_walk_4.2.2.2.2.2 rfl h
        · replace h := h.2 (kb_f q)
          refine R_aload_n e_X11_walk_2.1 0 rfl ?_
          refine R_bipush e_X11_walk_2.2.1 (by decide) ?_
          refine R_callV (mc := 0) (ms := 0) (mc' := 0) (ms' := 0) (M' := M_X11_deny) (d' := 0) (as := [vI 7]) (st := []) 11 1 e_X11_walk_2.2.2.1 (kCVof m_X11_deny l_X11_132) rfl (by decide) kx_0 (by decide) (by decide) rfl rfl (by show (0 : Nat) ≤ 8; decide) ?_
          refine S_X11_deny ?_
          refine R_eqs (st2 := [vI (-1)]) (σ2 := (kup σ 0 0 7)) rfl rfl ?_
          exact R_ireturn e_X11_walk_2.2.2.2.1 rfl h
      · replace h := h.2 q
        refine R_aload_n e_X11_walk_1.1 0 rfl ?_
        refine R_iconst e_X11_walk_1.2.1 ?_
        refine R_callV (mc := 0) (ms := 0) (mc' := 0) (ms' := 0) (M' := M_X11_deny) (d' := 0) (as := [vI 1]) (st := []) 11 1 e_X11_walk_1.2.2.1 (kCVof m_X11_deny l_X11_132) rfl (by decide) kx_0 (by decide) (by decide) rfl rfl (by show (0 : Nat) ≤ 8; decide) ?_
        refine S_X11_deny ?_
        refine R_eqs (st2 := [vI (-1)]) (σ2 := (kup σ 0 0 1)) rfl rfl ?_
        exact R_ireturn e_X11_walk_1.2.2.2.1 rfl h
/-! KiteLand.cut(IZ)Z -/
theorem e_X11_cut_0 : decode cX11_cut 0 = .ok (.aload_n 0, 1) ∧ decode cX11_cut 1 = .ok (.getfield 43, 3) ∧ decode cX11_cut 4 = .ok (.iload_n 1, 1) ∧ decode cX11_cut 5 = .ok (.invokevirtual 238, 3) ∧ decode cX11_cut 8 = .ok (.ifCond .ne 9, 3) ∧ decode cX11_cut 11 = .ok (.aload_n 0, 1) ∧ decode cX11_cut 12 = .ok (.iconst 1, 1) ∧ decode cX11_cut 13 = .ok (.invokevirtual 113, 3) ∧ decode cX11_cut 16 = .ok (.ireturn, 1) ∧ decode cX11_cut 17 = .ok (.aload_n 0, 1) := by decide +kernel
theorem e_X11_cut_1 : decode cX11_cut 18 = .ok (.getfield 43, 3) ∧ decode cX11_cut 21 = .ok (.getfield 241, 3) ∧ decode cX11_cut 24 = .ok (.iload_n 1, 1) ∧ decode cX11_cut 25 = .ok (.aaload, 1) ∧ decode cX11_cut 26 = .ok (.getfield 362, 3) ∧ decode cX11_cut 29 = .ok (.iload_n 2, 1) ∧ decode cX11_cut 30 = .ok (.if_icmp .ne 10, 3) ∧ decode cX11_cut 33 = .ok (.aload_n 0, 1) ∧ decode cX11_cut 34 = .ok (.bipush 7, 2) ∧ decode cX11_cut 36 = .ok (.invokevirtual 113, 3) := by decide +kernel
theorem e_X11_cut_2 : decode cX11_cut 39 = .ok (.ireturn, 1) ∧ decode cX11_cut 40 = .ok (.aload_n 0, 1) ∧ decode cX11_cut 41 = .ok (.getfield 43, 3) ∧ decode cX11_cut 44 = .ok (.getfield 241, 3) ∧ decode cX11_cut 47 = .ok (.iload_n 1, 1) ∧ decode cX11_cut 48 = .ok (.aaload, 1) ∧ decode cX11_cut 49 = .ok (.iload_n 2, 1) ∧ decode cX11_cut 50 = .ok (.putfield 362, 3) ∧ decode cX11_cut 53 = .ok (.aload_n 0, 1) ∧ decode cX11_cut 54 = .ok (.invokevirtual 120, 3) := by decide +kernel
theorem e_X11_cut_3 : decode cX11_cut 57 = .ok (.ireturn, 1) := by decide +kernel
theorem S_X11_cut {G : Kg} {σ : Kmem} {Q : Int → Kmem → Prop} {l1 l2 : Int} {v : Int → Int}  (h : (wf v ∧ kco σ 5 v ∧ rI (l1)) ∧ (((sKt v (l1)) → (0 ≤ l1 ∧ l1 < 6) ∧ (rI (σ (5 + 6 + l1) 9)) ∧ (rI l2) ∧ ((σ (5 + 6 + l1) 9 ≠ l2 → (0 ≤ l1 ∧ l1 < 6) ∧ (l2 = 0 ∨ l2 = 1) ∧ Q 1 (kup (kup σ (5 + 6 + l1) 9 l2) 0 0 0)) ∧ (σ (5 + 6 + l1) 9 = l2 → Q 0 (kup σ 0 0 7)))) ∧ (¬ (sKt v (l1)) → Q 0 (kup σ 0 0 1)))) : Run G WX M_X11_cut 1 0 0 [vA G 0, vI l1, vI l2] σ Q := by
  refine Run.of (by decide +kernel) (by show (3 : Nat) ≤ 3; decide) ?_
  show Ex G WX M_X11_cut 1 0 0 0 [(0, vA G 0), (1, vI l1), (2, vI l2)] [] σ Q
  refine R_aload_n e_X11_cut_0.1 0 rfl ?_
  refine R_getA 11 7 5 e_X11_cut_0.2.1 f_X11_43 kx_0 (fun _ _ => rfl) rx_0_7 (by decide) ?_
  refine R_iload_n e_X11_cut_0.2.2.1 1 rfl ?_
  obtain ⟨q3, h⟩ := h
  refine R_callV (mc := 0) (ms := 0) (mc' := 0) (ms' := 0) (M' := M_X0_hasKite) (d' := 0) (as := [vI l1]) (st := []) 0 1 e_X11_cut_0.2.2.2.1 (kCVof m_X0_hasKite l_X11_238) rfl (by decide) (kC_self isC_5) (by decide) (by decide) rfl rfl (by show (0 : Nat) ≤ 8; decide) ?_
  refine Run.mono (P_X0_hasKite isC_5 q3) (fun rr ss e => ?_)
  obtain ⟨e1, e2⟩ := e
  refine R_eqs (st2 := [vI (kb (sKt v (l1)))]) (σ2 := σ) (by rw [e1]; rfl) e2 ?_
  refine R_if_ne 17 e_X11_cut_0.2.2.2.2.1 (by decide) (kb_r _) (fun q => ?_) (fun q => ?_)
  · replace h := h.1 (kb_t q)
    refine R_aload_n e_X11_cut_0.2.2.2.2.2.2.2.2.2 0 rfl ?_
    refine R_getA 11 7 5 e_X11_cut_1.1 f_X11_43 kx_0 (fun _ _ => rfl) rx_0_7 (by decide) ?_
    refine R_getA 0 10 (5 + 3) e_X11_cut_1.2.1 f_X11_241 (kC_self isC_5) (fun _ _ => rfl) (kC_r10 isC_5) (kC_n3 isC_5) ?_
    refine R_iload_n e_X11_cut_1.2.2.1 1 rfl ?_
    obtain ⟨q4, h⟩ := h
    refine R_aald 27 6 (5 + 6 + l1) e_X11_cut_1.2.2.2.1 (by decide) (kC_kites isC_5) q4 (kC_kiteAt isC_5 q4) (kC_kiteN isC_5 q4) ?_
    refine R_getI 3 9 9 e_X11_cut_1.2.2.2.2.1 f_X11_362 (kC_kite isC_5 q4) (fun _ _ => rfl) rfl ?_
    refine R_iload_n e_X11_cut_1.2.2.2.2.2.1 2 rfl ?_
    obtain ⟨q5, h⟩ := h
    obtain ⟨q6, h⟩ := h
    refine R_icmp_ne 40 e_X11_cut_1.2.2.2.2.2.2.1 (by decide) q5 q6 (fun q => ?_) (fun q => ?_)
    · replace h := h.1 q
      refine R_aload_n e_X11_cut_2.2.1 0 rfl ?_
      refine R_getA 11 7 5 e_X11_cut_2.2.2.1 f_X11_43 kx_0 (fun _ _ => rfl) rx_0_7 (by decide) ?_
      refine R_getA 0 10 (5 + 3) e_X11_cut_2.2.2.2.1 f_X11_241 (kC_self isC_5) (fun _ _ => rfl) (kC_r10 isC_5) (kC_n3 isC_5) ?_
      refine R_iload_n e_X11_cut_2.2.2.2.2.1 1 rfl ?_
      obtain ⟨q7, h⟩ := h
      refine R_aald 27 6 (5 + 6 + l1) e_X11_cut_2.2.2.2.2.2.1 (by decide) (kC_kites isC_5) q7 (kC_kiteAt isC_5 q7) (kC_kiteN isC_5 q7) ?_
      refine R_iload_n e_X11_cut_2.2.2.2.2.2.2.1 2 rfl ?_
      obtain ⟨q8, h⟩ := h
      refine R_putZ 3 9 9 WX_ok e_X11_cut_2.2.2.2.2.2.2.2.1 f_X11_362 (kC_kite isC_5 q7) rfl rfl rfl q8 ?_
      refine R_aload_n e_X11_cut_2.2.2.2.2.2.2.2.2.1 0 rfl ?_
      refine R_callV (mc := 0) (ms := 0) (mc' := 0) (ms' := 0) (M' := M_X11_grant) (d' := 0) (as := []) (st := []) 11 0 e_X11_cut_2.2.2.2.2.2.2.2.2.2 (kCVof m_X11_grant l_X11_120) rfl (by decide) kx_0 (by decide) (by decide) rfl rfl (by show (0 : Nat) ≤ 8; decide) ?_
      refine S_X11_grant ?_
      refine R_eqs (st2 := [vI 1]) (σ2 := (kup (kup σ (5 + 6 + l1) 9 l2) 0 0 0)) rfl rfl ?_
      exact R_zreturn e_X11_cut_3 rfl (Or.inr rfl) h
    · replace h := h.2 q
      refine R_aload_n e_X11_cut_1.2.2.2.2.2.2.2.1 0 rfl ?_
      refine R_bipush e_X11_cut_1.2.2.2.2.2.2.2.2.1 (by decide) ?_
      refine R_callV (mc := 0) (ms := 0) (mc' := 0) (ms' := 0) (M' := M_X11_refuse) (d' := 0) (as := [vI 7]) (st := []) 11 1 e_X11_cut_1.2.2.2.2.2.2.2.2.2 (kCVof m_X11_refuse l_X11_113) rfl (by decide) kx_0 (by decide) (by decide) rfl rfl (by show (0 : Nat) ≤ 8; decide) ?_
      refine S_X11_refuse ?_
      refine R_eqs (st2 := [vI 0]) (σ2 := (kup σ 0 0 7)) rfl rfl ?_
      exact R_zreturn e_X11_cut_2.1 rfl (Or.inl rfl) h
  · replace h := h.2 (kb_f q)
    refine R_aload_n e_X11_cut_0.2.2.2.2.2.1 0 rfl ?_
    refine R_iconst e_X11_cut_0.2.2.2.2.2.2.1 ?_
    refine R_callV (mc := 0) (ms := 0) (mc' := 0) (ms' := 0) (M' := M_X11_refuse) (d' := 0) (as := [vI 1]) (st := []) 11 1 e_X11_cut_0.2.2.2.2.2.2.2.1 (kCVof m_X11_refuse l_X11_113) rfl (by decide) kx_0 (by decide) (by decide) rfl rfl (by show (0 : Nat) ≤ 8; decide) ?_
    refine S_X11_refuse ?_
    refine R_eqs (st2 := [vI 0]) (σ2 := (kup σ 0 0 1)) rfl rfl ?_
    exact R_zreturn e_X11_cut_0.2.2.2.2.2.2.2.2.1 rfl (Or.inl rfl) h
/-! KiteLand.sell(II)I -/
theorem e_X11_sell_0 : decode cX11_sell 0 = .ok (.aload_n 0, 1) ∧ decode cX11_sell 1 = .ok (.getfield 43, 3) ∧ decode cX11_sell 4 = .ok (.iload_n 1, 1) ∧ decode cX11_sell 5 = .ok (.invokevirtual 238, 3) ∧ decode cX11_sell 8 = .ok (.ifCond .eq 15, 3) ∧ decode cX11_sell 11 = .ok (.iload_n 2, 1) ∧ decode cX11_sell 12 = .ok (.bipush (-9), 2) ∧ decode cX11_sell 14 = .ok (.if_icmp .lt 9, 3) ∧ decode cX11_sell 17 = .ok (.iload_n 2, 1) ∧ decode cX11_sell 18 = .ok (.bipush 9, 2) := by decide +kernel
theorem e_X11_sell_1 : decode cX11_sell 20 = .ok (.if_icmp .le 9, 3) ∧ decode cX11_sell 23 = .ok (.aload_n 0, 1) ∧ decode cX11_sell 24 = .ok (.iconst 1, 1) ∧ decode cX11_sell 25 = .ok (.invokevirtual 132, 3) ∧ decode cX11_sell 28 = .ok (.ireturn, 1) ∧ decode cX11_sell 29 = .ok (.aload_n 0, 1) ∧ decode cX11_sell 30 = .ok (.getfield 43, 3) ∧ decode cX11_sell 33 = .ok (.getfield 241, 3) ∧ decode cX11_sell 36 = .ok (.iload_n 1, 1) ∧ decode cX11_sell 37 = .ok (.aaload, 1) := by decide +kernel
theorem e_X11_sell_2 : decode cX11_sell 38 = .ok (.getfield 256, 3) ∧ decode cX11_sell 41 = .ok (.iload_n 2, 1) ∧ decode cX11_sell 42 = .ok (.iadd, 1) ∧ decode cX11_sell 43 = .ok (.istore_n 3, 1) ∧ decode cX11_sell 44 = .ok (.iload_n 3, 1) ∧ decode cX11_sell 45 = .ok (.ifCond .lt 9, 3) ∧ decode cX11_sell 48 = .ok (.iload_n 3, 1) ∧ decode cX11_sell 49 = .ok (.bipush 9, 2) ∧ decode cX11_sell 51 = .ok (.if_icmp .le 10, 3) ∧ decode cX11_sell 54 = .ok (.aload_n 0, 1) := by decide +kernel
theorem e_X11_sell_3 : decode cX11_sell 55 = .ok (.bipush 7, 2) ∧ decode cX11_sell 57 = .ok (.invokevirtual 132, 3) ∧ decode cX11_sell 60 = .ok (.ireturn, 1) ∧ decode cX11_sell 61 = .ok (.aload_n 0, 1) ∧ decode cX11_sell 62 = .ok (.getfield 43, 3) ∧ decode cX11_sell 65 = .ok (.getfield 241, 3) ∧ decode cX11_sell 68 = .ok (.iload_n 1, 1) ∧ decode cX11_sell 69 = .ok (.aaload, 1) ∧ decode cX11_sell 70 = .ok (.iload_n 3, 1) ∧ decode cX11_sell 71 = .ok (.putfield 256, 3) := by decide +kernel
theorem e_X11_sell_4 : decode cX11_sell 74 = .ok (.aload_n 0, 1) ∧ decode cX11_sell 75 = .ok (.iload_n 3, 1) ∧ decode cX11_sell 76 = .ok (.invokevirtual 176, 3) ∧ decode cX11_sell 79 = .ok (.ireturn, 1) := by decide +kernel
theorem S_X11_sell {G : Kg} {σ : Kmem} {Q : Int → Kmem → Prop} {l1 l2 : Int} {v : Int → Int}  (h : (wf v ∧ kco σ 5 v ∧ rI (l1)) ∧ ((¬ (sKt v (l1)) → Q (-1) (kup σ 0 0 1)) ∧ ((sKt v (l1)) → (rI l2) ∧ ((l2 < -9 → Q (-1) (kup σ 0 0 1)) ∧ (-9 ≤ l2 → ((l2 ≤ 9 → (0 ≤ l1 ∧ l1 < 6) ∧ (rI ((σ (5 + 6 + l1) 4) + l2)) ∧ (((σ (5 + 6 + l1) 4) + l2 < 0 → Q (-1) (kup σ 0 0 7)) ∧ (0 ≤ (σ (5 + 6 + l1) 4) + l2 → (((σ (5 + 6 + l1) 4) + l2 ≤ 9 → (0 ≤ l1 ∧ l1 < 6) ∧ Q ((σ (5 + 6 + l1) 4) + l2) (kup (kup σ (5 + 6 + l1) 4 ((σ (5 + 6 + l1) 4) + l2)) 0 0 0)) ∧ (9 < (σ (5 + 6 + l1) 4) + l2 → Q (-1) (kup σ 0 0 7)))))) ∧ (9 < l2 → Q (-1) (kup σ 0 0 1)))))))) : Run G WX M_X11_sell 1 0 0 [vA G 0, vI l1, vI l2] σ Q := by
  refine Run.of (by decide +kernel) (by show (3 : Nat) ≤ 4; decide) ?_
  show Ex G WX M_X11_sell 1 0 0 0 [(0, vA G 0), (1, vI l1), (2, vI l2)] [] σ Q
  refine R_aload_n e_X11_sell_0.1 0 rfl ?_
  refine R_getA 11 7 5 e_X11_sell_0.2.1 f_X11_43 kx_0 (fun _ _ => rfl) rx_0_7 (by decide) ?_
  refine R_iload_n e_X11_sell_0.2.2.1 1 rfl ?_
  obtain ⟨q3, h⟩ := h
  refine R_callV (mc := 0) (ms := 0) (mc' := 0) (ms' := 0) (M' := M_X0_hasKite) (d' := 0) (as := [vI l1]) (st := []) 0 1 e_X11_sell_0.2.2.2.1 (kCVof m_X0_hasKite l_X11_238) rfl (by decide) (kC_self isC_5) (by decide) (by decide) rfl rfl (by show (0 : Nat) ≤ 8; decide) ?_
  refine Run.mono (P_X0_hasKite isC_5 q3) (fun rr ss e => ?_)
  obtain ⟨e1, e2⟩ := e
  refine R_eqs (st2 := [vI (kb (sKt v (l1)))]) (σ2 := σ) (by rw [e1]; rfl) e2 ?_
  refine R_if_eq 23 e_X11_sell_0.2.2.2.2.1 (by decide) (kb_r _) (fun q => ?_) (fun q => ?_)
  · replace h := h.1 (kb_f q)
    refine R_aload_n e_X11_sell_1.2.1 0 rfl ?_
    refine R_iconst e_X11_sell_1.2.2.1 ?_
    refine R_callV (mc := 0) (ms := 0) (mc' := 0) (ms' := 0) (M' := M_X11_deny) (d' := 0) (as := [vI 1]) (st := []) 11 1 e_X11_sell_1.2.2.2.1 (kCVof m_X11_deny l_X11_132) rfl (by decide) kx_0 (by decide) (by decide) rfl rfl (by show (0 : Nat) ≤ 8; decide) ?_
    refine S_X11_deny ?_
    refine R_eqs (st2 := [vI (-1)]) (σ2 := (kup σ 0 0 1)) rfl rfl ?_
    exact R_ireturn e_X11_sell_1.2.2.2.2.1 rfl h
  · replace h := h.2 (kb_t q)
    refine R_iload_n e_X11_sell_0.2.2.2.2.2.1 2 rfl ?_
    refine R_bipush e_X11_sell_0.2.2.2.2.2.2.1 (by decide) ?_
    obtain ⟨q6, h⟩ := h
    refine R_icmp_lt 23 e_X11_sell_0.2.2.2.2.2.2.2.1 (by decide) q6 (by decide) (fun q => ?_) (fun q => ?_)
    · replace h := h.1 q
      refine R_aload_n e_X11_sell_1.2.1 0 rfl ?_
      refine R_iconst e_X11_sell_1.2.2.1 ?_
      refine R_callV (mc := 0) (ms := 0) (mc' := 0) (ms' := 0) (M' := M_X11_deny) (d' := 0) (as := [vI 1]) (st := []) 11 1 e_X11_sell_1.2.2.2.1 (kCVof m_X11_deny l_X11_132) rfl (by decide) kx_0 (by decide) (by decide) rfl rfl (by show (0 : Nat) ≤ 8; decide) ?_
      refine S_X11_deny ?_
      refine R_eqs (st2 := [vI (-1)]) (σ2 := (kup σ 0 0 1)) rfl rfl ?_
      exact R_ireturn e_X11_sell_1.2.2.2.2.1 rfl h
    · replace h := h.2 q
      refine R_iload_n e_X11_sell_0.2.2.2.2.2.2.2.2.1 2 rfl ?_
      refine R_bipush e_X11_sell_0.2.2.2.2.2.2.2.2.2 (by decide) ?_
      refine R_icmp_le 29 e_X11_sell_1.1 (by decide) q6 (by decide) (fun q => ?_) (fun q => ?_)
      · replace h := h.1 q
        refine R_aload_n e_X11_sell_1.2.2.2.2.2.1 0 rfl ?_
        refine R_getA 11 7 5 e_X11_sell_1.2.2.2.2.2.2.1 f_X11_43 kx_0 (fun _ _ => rfl) rx_0_7 (by decide) ?_
        refine R_getA 0 10 (5 + 3) e_X11_sell_1.2.2.2.2.2.2.2.1 f_X11_241 (kC_self isC_5) (fun _ _ => rfl) (kC_r10 isC_5) (kC_n3 isC_5) ?_
        refine R_iload_n e_X11_sell_1.2.2.2.2.2.2.2.2.1 1 rfl ?_
        obtain ⟨q9, h⟩ := h
        refine R_aald 27 6 (5 + 6 + l1) e_X11_sell_1.2.2.2.2.2.2.2.2.2 (by decide) (kC_kites isC_5) q9 (kC_kiteAt isC_5 q9) (kC_kiteN isC_5 q9) ?_
        refine R_getI 3 4 4 e_X11_sell_2.1 f_X11_256 (kC_kite isC_5 q9) (fun _ _ => rfl) rfl ?_
        refine R_iload_n e_X11_sell_2.2.1 2 rfl ?_
        refine R_iadd e_X11_sell_2.2.2.1 ?_
        refine R_istore_n (ls2 := [(3, vI ((σ (5 + 6 + l1) 4) + l2)), (0, vA G 0), (1, vI l1), (2, vI l2)]) e_X11_sell_2.2.2.2.1 (by decide) rfl ?_
        refine R_iload_n e_X11_sell_2.2.2.2.2.1 0 rfl ?_
        obtain ⟨q10, h⟩ := h
        refine R_if_lt 54 e_X11_sell_2.2.2.2.2.2.1 (by decide) q10  (fun q => ?_) (fun q => ?_)
        · replace h := h.1 q
          refine R_aload_n e_X11_sell_2.2.2.2.2.2.2.2.2.2 1 rfl ?_
          refine R_bipush e_X11_sell_3.1 (by decide) ?_
          refine R_callV (mc := 0) (ms := 0) (mc' := 0) (ms' := 0) (M' := M_X11_deny) (d' := 0) (as := [vI 7]) (st := []) 11 1 e_X11_sell_3.2.1 (kCVof m_X11_deny l_X11_132) rfl (by decide) kx_0 (by decide) (by decide) rfl rfl (by show (0 : Nat) ≤ 8; decide) ?_
          refine S_X11_deny ?_
          refine R_eqs (st2 := [vI (-1)]) (σ2 := (kup σ 0 0 7)) rfl rfl ?_
          exact R_ireturn e_X11_sell_3.2.2.1 rfl h
        · replace h := h.2 q
          refine R_iload_n e_X11_sell_2.2.2.2.2.2.2.1 0 rfl ?_
          refine R_bipush e_X11_sell_2.2.2.2.2.2.2.2.1 (by decide) ?_
          refine R_icmp_le 61 e_X11_sell_2.2.2.2.2.2.2.2.2.1 (by decide) q10 (by decide) (fun q => ?_) (fun q => ?_)
          · replace h := h.1 q
            refine R_aload_n e_X11_sell_3.2.2.2.1 1 rfl ?_
            refine R_getA 11 7 5 e_X11_sell_3.2.2.2.2.1 f_X11_43 kx_0 (fun _ _ => rfl) rx_0_7 (by decide) ?_
            refine R_getA 0 10 (5 + 3) e_X11_sell_3.2.2.2.2.2.1 f_X11_241 (kC_self isC_5) (fun _ _ => rfl) (kC_r10 isC_5) (kC_n3 isC_5) ?_
            refine R_iload_n e_X11_sell_3.2.2.2.2.2.2.1 2 rfl ?_
            obtain ⟨q13, h⟩ := h
            refine R_aald 27 6 (5 + 6 + l1) e_X11_sell_3.2.2.2.2.2.2.2.1 (by decide) (kC_kites isC_5) q13 (kC_kiteAt isC_5 q13) (kC_kiteN isC_5 q13) ?_
            refine R_iload_n e_X11_sell_3.2.2.2.2.2.2.2.2.1 0 rfl ?_
            refine R_putI 3 4 4 WX_ok e_X11_sell_3.2.2.2.2.2.2.2.2.2 f_X11_256 (kC_kite isC_5 q13) rfl rfl rfl ?_
            refine R_aload_n e_X11_sell_4.1 1 rfl ?_
            refine R_iload_n e_X11_sell_4.2.1 0 rfl ?_
            refine R_callV (mc := 0) (ms := 0) (mc' := 0) (ms' := 0) (M' := M_X11_give) (d' := 0) (as := [vI ((σ (5 + 6 + l1) 4) + l2)]) (st := []) 11 1 e_X11_sell_4.2.2.1 (kCVof m_X11_give l_X11_176) rfl (by decide) kx_0 (by decide) (by decide) rfl rfl (by show (0 : Nat) ≤ 8; decide) ?_
            refine S_X11_give ?_
            refine R_eqs (st2 := [vI ((σ (5 + 6 + l1) 4) + l2)]) (σ2 := (kup (kup σ (5 + 6 + l1) 4 ((σ (5 + 6 + l1) 4) + l2)) 0 0 0)) rfl rfl ?_
            exact R_ireturn e_X11_sell_4.2.2.2 rfl h
          · replace h := h.2 q
            refine R_aload_n e_X11_sell_2.2.2.2.2.2.2.2.2.2 1 rfl ?_
            refine R_bipush e_X11_sell_3.1 (by decide) ?_
            refine R_callV (mc := 0) (ms := 0) (mc' := 0) (ms' := 0) (M' := M_X11_deny) (d' := 0) (as := [vI 7]) (st := []) 11 1 e_X11_sell_3.2.1 (kCVof m_X11_deny l_X11_132) rfl (by decide) kx_0 (by decide) (by decide) rfl rfl (by show (0 : Nat) ≤ 8; decide) ?_
            refine S_X11_deny ?_
            refine R_eqs (st2 := [vI (-1)]) (σ2 := (kup σ 0 0 7)) rfl rfl ?_
            exact R_ireturn e_X11_sell_3.2.2.1 rfl h
      · replace h := h.2 q
        refine R_aload_n e_X11_sell_1.2.1 0 rfl ?_
        refine R_iconst e_X11_sell_1.2.2.1 ?_
        refine R_callV (mc := 0) (ms := 0) (mc' := 0) (ms' := 0) (M' := M_X11_deny) (d' := 0) (as := [vI 1]) (st := []) 11 1 e_X11_sell_1.2.2.2.1 (kCVof m_X11_deny l_X11_132) rfl (by decide) kx_0 (by decide) (by decide) rfl rfl (by show (0 : Nat) ≤ 8; decide) ?_
        refine S_X11_deny ?_
        refine R_eqs (st2 := [vI (-1)]) (σ2 := (kup σ 0 0 1)) rfl rfl ?_
        exact R_ireturn e_X11_sell_1.2.2.2.2.1 rfl h
/-! KiteLand.blow(III)Z -/
theorem e_X11_blow_0 : decode cX11_blow 0 = .ok (.aload_n 0, 1) ∧ decode cX11_blow 1 = .ok (.iload_n 1, 1) ∧ decode cX11_blow 2 = .ok (.invokevirtual 228, 3) ∧ decode cX11_blow 5 = .ok (.ifCond .eq 22, 3) ∧ decode cX11_blow 8 = .ok (.iload_n 2, 1) ∧ decode cX11_blow 9 = .ok (.ifCond .lt 18, 3) ∧ decode cX11_blow 12 = .ok (.iload_n 2, 1) ∧ decode cX11_blow 13 = .ok (.bipush 7, 2) ∧ decode cX11_blow 15 = .ok (.if_icmp .gt 12, 3) ∧ decode cX11_blow 18 = .ok (.iload_n 3, 1) := by decide +kernel
theorem e_X11_blow_1 : decode cX11_blow 19 = .ok (.ifCond .lt 8, 3) ∧ decode cX11_blow 22 = .ok (.iload_n 3, 1) ∧ decode cX11_blow 23 = .ok (.iconst 3, 1) ∧ decode cX11_blow 24 = .ok (.if_icmp .le 9, 3) ∧ decode cX11_blow 27 = .ok (.aload_n 0, 1) ∧ decode cX11_blow 28 = .ok (.iconst 1, 1) ∧ decode cX11_blow 29 = .ok (.invokevirtual 113, 3) ∧ decode cX11_blow 32 = .ok (.ireturn, 1) ∧ decode cX11_blow 33 = .ok (.aload_n 0, 1) ∧ decode cX11_blow 34 = .ok (.getfield 43, 3) := by decide +kernel
theorem e_X11_blow_2 : decode cX11_blow 37 = .ok (.getfield 231, 3) ∧ decode cX11_blow 40 = .ok (.iload_n 1, 1) ∧ decode cX11_blow 41 = .ok (.iload_n 2, 1) ∧ decode cX11_blow 42 = .ok (.iastore, 1) ∧ decode cX11_blow 43 = .ok (.aload_n 0, 1) ∧ decode cX11_blow 44 = .ok (.getfield 43, 3) ∧ decode cX11_blow 47 = .ok (.getfield 235, 3) ∧ decode cX11_blow 50 = .ok (.iload_n 1, 1) ∧ decode cX11_blow 51 = .ok (.iload_n 3, 1) ∧ decode cX11_blow 52 = .ok (.iastore, 1) := by decide +kernel
theorem e_X11_blow_3 : decode cX11_blow 53 = .ok (.aload_n 0, 1) ∧ decode cX11_blow 54 = .ok (.invokevirtual 120, 3) ∧ decode cX11_blow 57 = .ok (.ireturn, 1) := by decide +kernel
theorem S_X11_blow {G : Kg} {σ : Kmem} {Q : Int → Kmem → Prop} {l1 l2 l3 : Int}  (h : (rI (l1)) ∧ ((¬ (sHr (l1)) → Q 0 (kup σ 0 0 1)) ∧ ((sHr (l1)) → (rI l2) ∧ ((l2 < 0 → Q 0 (kup σ 0 0 1)) ∧ (0 ≤ l2 → ((7 < l2 → Q 0 (kup σ 0 0 1)) ∧ (l2 ≤ 7 → (rI l3) ∧ ((l3 < 0 → Q 0 (kup σ 0 0 1)) ∧ (0 ≤ l3 → ((l3 ≤ 3 → (0 ≤ l1 ∧ l1 < 12) ∧ (0 ≤ l1 ∧ l1 < 12) ∧ Q 1 (kup (kup (kup σ (5 + 1) l1 l2) (5 + 2) l1 l3) 0 0 0)) ∧ (3 < l3 → Q 0 (kup σ 0 0 1)))))))))))) : Run G WX M_X11_blow 1 0 0 [vA G 0, vI l1, vI l2, vI l3] σ Q := by
  refine Run.of (by decide +kernel) (by show (4 : Nat) ≤ 4; decide) ?_
  show Ex G WX M_X11_blow 1 0 0 0 [(0, vA G 0), (1, vI l1), (2, vI l2), (3, vI l3)] [] σ Q
  refine R_aload_n e_X11_blow_0.1 0 rfl ?_
  refine R_iload_n e_X11_blow_0.2.1 1 rfl ?_
  obtain ⟨q3, h⟩ := h
  refine R_callV (mc := 0) (ms := 0) (mc' := 0) (ms' := 0) (M' := M_X11_isHourOfDay) (d' := 0) (as := [vI l1]) (st := []) 11 1 e_X11_blow_0.2.2.1 (kCVof m_X11_isHourOfDay l_X11_228) rfl (by decide) kx_0 (by decide) (by decide) rfl rfl (by show (0 : Nat) ≤ 8; decide) ?_
  refine Run.mono (P_X11_isHourOfDay q3) (fun rr ss e => ?_)
  obtain ⟨e1, e2⟩ := e
  refine R_eqs (st2 := [vI (kb (sHr (l1)))]) (σ2 := σ) (by rw [e1]; rfl) e2 ?_
  refine R_if_eq 27 e_X11_blow_0.2.2.2.1 (by decide) (kb_r _) (fun q => ?_) (fun q => ?_)
  · replace h := h.1 (kb_f q)
    refine R_aload_n e_X11_blow_1.2.2.2.2.1 0 rfl ?_
    refine R_iconst e_X11_blow_1.2.2.2.2.2.1 ?_
    refine R_callV (mc := 0) (ms := 0) (mc' := 0) (ms' := 0) (M' := M_X11_refuse) (d' := 0) (as := [vI 1]) (st := []) 11 1 e_X11_blow_1.2.2.2.2.2.2.1 (kCVof m_X11_refuse l_X11_113) rfl (by decide) kx_0 (by decide) (by decide) rfl rfl (by show (0 : Nat) ≤ 8; decide) ?_
    refine S_X11_refuse ?_
    refine R_eqs (st2 := [vI 0]) (σ2 := (kup σ 0 0 1)) rfl rfl ?_
    exact R_zreturn e_X11_blow_1.2.2.2.2.2.2.2.1 rfl (Or.inl rfl) h
  · replace h := h.2 (kb_t q)
    refine R_iload_n e_X11_blow_0.2.2.2.2.1 2 rfl ?_
    obtain ⟨q6, h⟩ := h
    refine R_if_lt 27 e_X11_blow_0.2.2.2.2.2.1 (by decide) q6  (fun q => ?_) (fun q => ?_)
    · replace h := h.1 q
      refine R_aload_n e_X11_blow_1.2.2.2.2.1 0 rfl ?_
      refine R_iconst e_X11_blow_1.2.2.2.2.2.1 ?_
      refine R_callV (mc := 0) (ms := 0) (mc' := 0) (ms' := 0) (M' := M_X11_refuse) (d' := 0) (as := [vI 1]) (st := []) 11 1 e_X11_blow_1.2.2.2.2.2.2.1 (kCVof m_X11_refuse l_X11_113) rfl (by decide) kx_0 (by decide) (by decide) rfl rfl (by show (0 : Nat) ≤ 8; decide) ?_
      refine S_X11_refuse ?_
      refine R_eqs (st2 := [vI 0]) (σ2 := (kup σ 0 0 1)) rfl rfl ?_
      exact R_zreturn e_X11_blow_1.2.2.2.2.2.2.2.1 rfl (Or.inl rfl) h
    · replace h := h.2 q
      refine R_iload_n e_X11_blow_0.2.2.2.2.2.2.1 2 rfl ?_
      refine R_bipush e_X11_blow_0.2.2.2.2.2.2.2.1 (by decide) ?_
      refine R_icmp_gt 27 e_X11_blow_0.2.2.2.2.2.2.2.2.1 (by decide) q6 (by decide) (fun q => ?_) (fun q => ?_)
      · replace h := h.1 q
        refine R_aload_n e_X11_blow_1.2.2.2.2.1 0 rfl ?_
        refine R_iconst e_X11_blow_1.2.2.2.2.2.1 ?_
        refine R_callV (mc := 0) (ms := 0) (mc' := 0) (ms' := 0) (M' := M_X11_refuse) (d' := 0) (as := [vI 1]) (st := []) 11 1 e_X11_blow_1.2.2.2.2.2.2.1 (kCVof m_X11_refuse l_X11_113) rfl (by decide) kx_0 (by decide) (by decide) rfl rfl (by show (0 : Nat) ≤ 8; decide) ?_
        refine S_X11_refuse ?_
        refine R_eqs (st2 := [vI 0]) (σ2 := (kup σ 0 0 1)) rfl rfl ?_
        exact R_zreturn e_X11_blow_1.2.2.2.2.2.2.2.1 rfl (Or.inl rfl) h
      · replace h := h.2 q
        refine R_iload_n e_X11_blow_0.2.2.2.2.2.2.2.2.2 3 rfl ?_
        obtain ⟨q11, h⟩ := h
        refine R_if_lt 27 e_X11_blow_1.1 (by decide) q11  (fun q => ?_) (fun q => ?_)
        · replace h := h.1 q
          refine R_aload_n e_X11_blow_1.2.2.2.2.1 0 rfl ?_
          refine R_iconst e_X11_blow_1.2.2.2.2.2.1 ?_
          refine R_callV (mc := 0) (ms := 0) (mc' := 0) (ms' := 0) (M' := M_X11_refuse) (d' := 0) (as := [vI 1]) (st := []) 11 1 e_X11_blow_1.2.2.2.2.2.2.1 (kCVof m_X11_refuse l_X11_113) rfl (by decide) kx_0 (by decide) (by decide) rfl rfl (by show (0 : Nat) ≤ 8; decide) ?_
          refine S_X11_refuse ?_
          refine R_eqs (st2 := [vI 0]) (σ2 := (kup σ 0 0 1)) rfl rfl ?_
          exact R_zreturn e_X11_blow_1.2.2.2.2.2.2.2.1 rfl (Or.inl rfl) h
        · replace h := h.2 q
          refine R_iload_n e_X11_blow_1.2.1 3 rfl ?_
          refine R_iconst e_X11_blow_1.2.2.1 ?_
          refine R_icmp_le 33 e_X11_blow_1.2.2.2.1 (by decide) q11 (by decide) (fun q => ?_) (fun q => ?_)
          · replace h := h.1 q
            refine R_aload_n e_X11_blow_1.2.2.2.2.2.2.2.2.1 0 rfl ?_
            refine R_getA 11 7 5 e_X11_blow_1.2.2.2.2.2.2.2.2.2 f_X11_43 kx_0 (fun _ _ => rfl) rx_0_7 (by decide) ?_
            refine R_getA 0 8 (5 + 1) e_X11_blow_2.1 f_X11_231 (kC_self isC_5) (fun _ _ => rfl) (kC_r8 isC_5) (kC_n1 isC_5) ?_
            refine R_iload_n e_X11_blow_2.2.1 1 rfl ?_
            refine R_iload_n e_X11_blow_2.2.2.1 2 rfl ?_
            obtain ⟨q14, h⟩ := h
            refine R_iast 12 WX_ok e_X11_blow_2.2.2.2.1 (kC_dirs isC_5) q14 ?_
            refine R_aload_n e_X11_blow_2.2.2.2.2.1 0 rfl ?_
            refine R_getA 11 7 5 e_X11_blow_2.2.2.2.2.2.1 f_X11_43 kx_0 (fun _ _ => rfl) rx_0_7 (by decide) ?_
            refine R_getA 0 9 (5 + 2) e_X11_blow_2.2.2.2.2.2.2.1 f_X11_235 (kC_self isC_5) (fun _ _ => rfl) (kC_r9 isC_5) (kC_n2 isC_5) ?_
            refine R_iload_n e_X11_blow_2.2.2.2.2.2.2.2.1 1 rfl ?_
            refine R_iload_n e_X11_blow_2.2.2.2.2.2.2.2.2.1 3 rfl ?_
            obtain ⟨q15, h⟩ := h
            refine R_iast 12 WX_ok e_X11_blow_2.2.2.2.2.2.2.2.2.2 (kC_forces isC_5) q15 ?_
            refine R_aload_n e_X11_blow_3.1 0 rfl ?_
            refine R_callV (mc := 0) (ms := 0) (mc' := 0) (ms' := 0) (M' := M_X11_grant) (d' := 0) (as := []) (st := []) 11 0 e_X11_blow_3.2.1 (kCVof m_X11_grant l_X11_120) rfl (by decide) kx_0 (by decide) (by decide) rfl rfl (by show (0 : Nat) ≤ 8; decide) ?_
            refine S_X11_grant ?_
            refine R_eqs (st2 := [vI 1]) (σ2 := (kup (kup (kup σ (5 + 1) l1 l2) (5 + 2) l1 l3) 0 0 0)) rfl rfl ?_
            exact R_zreturn e_X11_blow_3.2.2 rfl (Or.inr rfl) h
          · replace h := h.2 q
            refine R_aload_n e_X11_blow_1.2.2.2.2.1 0 rfl ?_
            refine R_iconst e_X11_blow_1.2.2.2.2.2.1 ?_
            refine R_callV (mc := 0) (ms := 0) (mc' := 0) (ms' := 0) (M' := M_X11_refuse) (d' := 0) (as := [vI 1]) (st := []) 11 1 e_X11_blow_1.2.2.2.2.2.2.1 (kCVof m_X11_refuse l_X11_113) rfl (by decide) kx_0 (by decide) (by decide) rfl rfl (by show (0 : Nat) ≤ 8; decide) ?_
            refine S_X11_refuse ?_
            refine R_eqs (st2 := [vI 0]) (σ2 := (kup σ 0 0 1)) rfl rfl ?_
            exact R_zreturn e_X11_blow_1.2.2.2.2.2.2.2.1 rfl (Or.inl rfl) h
