/-! KiteLand.ripe(I)I -/
theorem e_X11_ripe_0 : decode cX11_ripe 0 = .ok (.aload_n 0, 1) ∧ decode cX11_ripe 1 = .ok (.getfield 43, 3) ∧ decode cX11_ripe 4 = .ok (.iload_n 1, 1) ∧ decode cX11_ripe 5 = .ok (.invokevirtual 271, 3) ∧ decode cX11_ripe 8 = .ok (.ifCond .ne 9, 3) ∧ decode cX11_ripe 11 = .ok (.aload_n 0, 1) ∧ decode cX11_ripe 12 = .ok (.iconst 1, 1) ∧ decode cX11_ripe 13 = .ok (.invokevirtual 132, 3) ∧ decode cX11_ripe 16 = .ok (.ireturn, 1) ∧ decode cX11_ripe 17 = .ok (.aload_n 0, 1) := by decide +kernel
theorem e_X11_ripe_1 : decode cX11_ripe 18 = .ok (.getfield 47, 3) ∧ decode cX11_ripe 21 = .ok (.aload_n 0, 1) ∧ decode cX11_ripe 22 = .ok (.getfield 43, 3) ∧ decode cX11_ripe 25 = .ok (.invokevirtual 167, 3) ∧ decode cX11_ripe 28 = .ok (.aload_n 0, 1) ∧ decode cX11_ripe 29 = .ok (.getfield 47, 3) ∧ decode cX11_ripe 32 = .ok (.getfield 274, 3) ∧ decode cX11_ripe 35 = .ok (.iload_n 1, 1) ∧ decode cX11_ripe 36 = .ok (.aaload, 1) ∧ decode cX11_ripe 37 = .ok (.astore_n 2, 1) := by decide +kernel
theorem e_X11_ripe_2 : decode cX11_ripe 38 = .ok (.iconst 0, 1) ∧ decode cX11_ripe 39 = .ok (.istore_n 3, 1) ∧ decode cX11_ripe 40 = .ok (.iload_n 3, 1) ∧ decode cX11_ripe 41 = .ok (.sipush 999, 3) ∧ decode cX11_ripe 44 = .ok (.if_icmp .gt 70, 3) ∧ decode cX11_ripe 47 = .ok (.aload_n 2, 1) ∧ decode cX11_ripe 48 = .ok (.invokevirtual 365, 3) ∧ decode cX11_ripe 51 = .ok (.ifCond .eq 9, 3) ∧ decode cX11_ripe 54 = .ok (.aload_n 0, 1) ∧ decode cX11_ripe 55 = .ok (.iload_n 3, 1) := by decide +kernel
theorem e_X11_ripe_3 : decode cX11_ripe 56 = .ok (.invokevirtual 176, 3) ∧ decode cX11_ripe 59 = .ok (.ireturn, 1) ∧ decode cX11_ripe 60 = .ok (.aload_n 0, 1) ∧ decode cX11_ripe 61 = .ok (.getfield 47, 3) ∧ decode cX11_ripe 64 = .ok (.aload_n 0, 1) ∧ decode cX11_ripe 65 = .ok (.getfield 64, 3) ∧ decode cX11_ripe 68 = .ok (.invokevirtual 371, 3) ∧ decode cX11_ripe 71 = .ok (.pop, 1) ∧ decode cX11_ripe 72 = .ok (.aload_n 0, 1) ∧ decode cX11_ripe 73 = .ok (.getfield 64, 3) := by decide +kernel
theorem e_X11_ripe_4 : decode cX11_ripe 76 = .ok (.aload_n 2, 1) ∧ decode cX11_ripe 77 = .ok (.getfield 278, 3) ∧ decode cX11_ripe 80 = .ok (.aload_n 2, 1) ∧ decode cX11_ripe 81 = .ok (.getfield 281, 3) ∧ decode cX11_ripe 84 = .ok (.invokevirtual 325, 3) ∧ decode cX11_ripe 87 = .ok (.iconst (-1), 1) ∧ decode cX11_ripe 88 = .ok (.if_icmp .eq 7, 3) ∧ decode cX11_ripe 91 = .ok (.aload_n 2, 1) ∧ decode cX11_ripe 92 = .ok (.invokevirtual 375, 3) ∧ decode cX11_ripe 95 = .ok (.aload_n 0, 1) := by decide +kernel
theorem e_X11_ripe_5 : decode cX11_ripe 96 = .ok (.getfield 47, 3) ∧ decode cX11_ripe 99 = .ok (.dup, 1) ∧ decode cX11_ripe 100 = .ok (.getfield 212, 3) ∧ decode cX11_ripe 103 = .ok (.iconst 1, 1) ∧ decode cX11_ripe 104 = .ok (.iadd, 1) ∧ decode cX11_ripe 105 = .ok (.putfield 212, 3) ∧ decode cX11_ripe 108 = .ok (.iinc 3 1, 3) ∧ decode cX11_ripe 111 = .ok (.goto (-71), 3) ∧ decode cX11_ripe 114 = .ok (.aload_n 0, 1) ∧ decode cX11_ripe 115 = .ok (.bipush 6, 2) := by decide +kernel
theorem e_X11_ripe_6 : decode cX11_ripe 117 = .ok (.invokevirtual 132, 3) ∧ decode cX11_ripe 120 = .ok (.ireturn, 1) := by decide +kernel
abbrev E_X11_ripe_40 (G : Kg) (l2 l3 : Int) (σ : Kmem) (Q : Int → Kmem → Prop) : Prop := Ex G WX M_X11_ripe 4 0 0 40 [(0, vA G 0), (2, vA G l2), (3, vI l3)] [] σ Q
theorem S_X11_ripe {G : Kg} {σ : Kmem} {Q : Int → Kmem → Prop} {l1 : Int}  (h : Run G WX M_X0_hasCrop 0 0 0 [vA G 5, vI l1] σ (fun r1 s2 => (rI r1) ∧ ((r1 ≠ 0 → Run G WX M_X0_copy 1 0 0 [vA G 31, vA G 5] s2 (fun r4 s5 => (0 ≤ l1 ∧ l1 < 8) ∧ E_X11_ripe_40 G (31 + 12 + l1) 0 s5 Q)) ∧ (r1 = 0 → Run G WX M_X11_deny 0 0 0 [vA G 0, vI 1] s2 (fun r7 s8 => Q r7 s8))))) : Run G WX M_X11_ripe 4 0 0 [vA G 0, vI l1] σ Q := by
  refine Run.of (by decide +kernel) (by show (2 : Nat) ≤ 4; decide) ?_
  show Ex G WX M_X11_ripe 4 0 0 0 [(0, vA G 0), (1, vI l1)] [] σ Q
  refine R_aload_n e_X11_ripe_0.1 0 rfl ?_
  refine R_getA 11 7 5 e_X11_ripe_0.2.1 f_X11_43 kx_0 (fun _ _ => rfl) rx_0_7 (by decide) ?_
  refine R_iload_n e_X11_ripe_0.2.2.1 1 rfl ?_
  refine R_callV (mc := 0) (ms := 0) (mc' := 0) (ms' := 0) (M' := M_X0_hasCrop) (d' := 0) (as := [vI l1]) (st := []) 0 1 e_X11_ripe_0.2.2.2.1 (kCVof m_X0_hasCrop l_X11_271) rfl (by decide) (kC_self isC_5) (by decide) (by decide) rfl rfl (by show (0 : Nat) ≤ 8; decide) ?_
  refine Run.mono h (fun r1 s2 h => ?_)
  refine R_eqs (st2 := [vI r1]) rfl rfl ?_
  obtain ⟨q3, h⟩ := h
  refine R_if_ne 17 e_X11_ripe_0.2.2.2.2.1 (by decide) q3  (fun q => ?_) (fun q => ?_)
  · replace h := h.1 q
    refine R_aload_n e_X11_ripe_0.2.2.2.2.2.2.2.2.2 0 rfl ?_
    refine R_getA 11 8 31 e_X11_ripe_1.1 f_X11_47 kx_0 (fun _ _ => rfl) rx_0_8 (by decide) ?_
    refine R_aload_n e_X11_ripe_1.2.1 0 rfl ?_
    refine R_getA 11 7 5 e_X11_ripe_1.2.2.1 f_X11_43 kx_0 (fun _ _ => rfl) rx_0_7 (by decide) ?_
    refine R_callV (mc := 0) (ms := 0) (mc' := 0) (ms' := 0) (M' := M_X0_copy) (d' := 1) (as := [vA G 5]) (st := []) 0 1 e_X11_ripe_1.2.2.2.1 (kCVof m_X0_copy l_X11_167) rfl (by decide) (kC_self isC_31) (by decide) (by decide) rfl rfl (by show (0 : Nat) ≤ 8; decide) ?_
    refine Run.mono h (fun r4 s5 h => ?_)
    refine R_eqs (st2 := []) rfl rfl ?_
    refine R_aload_n e_X11_ripe_1.2.2.2.2.1 0 rfl ?_
    refine R_getA 11 8 31 e_X11_ripe_1.2.2.2.2.2.1 f_X11_47 kx_0 (fun _ _ => rfl) rx_0_8 (by decide) ?_
    refine R_getA 0 11 (31 + 4) e_X11_ripe_1.2.2.2.2.2.2.1 f_X11_274 (kC_self isC_31) (fun _ _ => rfl) (kC_r11 isC_31) (kC_n4 isC_31) ?_
    refine R_iload_n e_X11_ripe_1.2.2.2.2.2.2.2.1 1 rfl ?_
    obtain ⟨q6, h⟩ := h
    refine R_aald 28 8 (31 + 12 + l1) e_X11_ripe_1.2.2.2.2.2.2.2.2.1 (by decide) (kC_crops isC_31) q6 (kC_cropAt isC_31 q6) (kC_cropN isC_31 q6) ?_
    refine R_astore_n (ls2 := [(2, vA G (31 + 12 + l1)), (0, vA G 0), (1, vI l1)]) e_X11_ripe_1.2.2.2.2.2.2.2.2.2 (by decide) rfl ?_
    refine R_iconst e_X11_ripe_2.1 ?_
    refine R_istore_n (ls2 := [(3, vI 0), (2, vA G (31 + 12 + l1)), (0, vA G 0), (1, vI l1)]) e_X11_ripe_2.2.1 (by decide) rfl ?_
    refine R_ls (ls2 := [(0, vA G 0), (2, vA G (31 + 12 + l1)), (3, vI 0)]) [2, 1, 0] rfl ?_
    exact h
  · replace h := h.2 q
    refine R_aload_n e_X11_ripe_0.2.2.2.2.2.1 0 rfl ?_
    refine R_iconst e_X11_ripe_0.2.2.2.2.2.2.1 ?_
    refine R_callV (mc := 0) (ms := 0) (mc' := 0) (ms' := 0) (M' := M_X11_deny) (d' := 0) (as := [vI 1]) (st := []) 11 1 e_X11_ripe_0.2.2.2.2.2.2.2.1 (kCVof m_X11_deny l_X11_132) rfl (by decide) kx_0 (by decide) (by decide) rfl rfl (by show (0 : Nat) ≤ 8; decide) ?_
    refine Run.mono h (fun r7 s8 h => ?_)
    refine R_eqs (st2 := [vI r7]) rfl rfl ?_
    exact R_ireturn e_X11_ripe_0.2.2.2.2.2.2.2.2.1 rfl h
theorem S_X11_ripe_40 {G : Kg} {σ : Kmem} {Q : Int → Kmem → Prop} {l1 l2 l3 : Int}  (hl2 : kIsX l2 2) (h : (rI l3) ∧ ((999 < l3 → Run G WX M_X11_deny 0 0 0 [vA G 0, vI 6] σ (fun r10 s11 => Q r10 s11)) ∧ (l3 ≤ 999 → Run G WX M_X2_isRipe 0 0 0 [vA G l2] σ (fun r12 s13 => (rI r12) ∧ ((r12 = 0 → Run G WX M_X0_loseCrossed 3 0 0 [vA G 31, vA G 58] s13 (fun r15 s16 => Run G WX M_X8_ownerOf 0 0 0 [vA G 58, vI (s16 l2 1), vI (s16 l2 2)] s16 (fun r17 s18 => (rI r17) ∧ ((r17 = -1 → E_X11_ripe_40 G l2 (l3 + 1) (kup s18 31 4 ((s18 31 4) + 1)) Q) ∧ (r17 ≠ -1 → Run G WX M_X2_grow 1 0 0 [vA G l2] s18 (fun r20 s21 => E_X11_ripe_40 G l2 (l3 + 1) (kup s21 31 4 ((s21 31 4) + 1)) Q)))))) ∧ (r12 ≠ 0 → Run G WX M_X11_give 0 0 0 [vA G 0, vI l3] s13 (fun r22 s23 => Q r22 s23))))))) : E_X11_ripe_40 G l2 l3 σ Q := by
  refine R_iload_n e_X11_ripe_2.2.2.1 2 rfl ?_
  refine R_sipush e_X11_ripe_2.2.2.2.1 (by decide) ?_
  obtain ⟨q9, h⟩ := h
  refine R_icmp_gt 114 e_X11_ripe_2.2.2.2.2.1 (by decide) q9 (by decide) (fun q => ?_) (fun q => ?_)
  · replace h := h.1 q
    refine R_aload_n e_X11_ripe_5.2.2.2.2.2.2.2.2.1 0 rfl ?_
    refine R_bipush e_X11_ripe_5.2.2.2.2.2.2.2.2.2 (by decide) ?_
    refine R_callV (mc := 0) (ms := 0) (mc' := 0) (ms' := 0) (M' := M_X11_deny) (d' := 0) (as := [vI 6]) (st := []) 11 1 e_X11_ripe_6.1 (kCVof m_X11_deny l_X11_132) rfl (by decide) kx_0 (by decide) (by decide) rfl rfl (by show (0 : Nat) ≤ 8; decide) ?_
    refine Run.mono h (fun r10 s11 h => ?_)
    refine R_eqs (st2 := [vI r10]) rfl rfl ?_
    exact R_ireturn e_X11_ripe_6.2 rfl h
  · replace h := h.2 q
    refine R_aload_n e_X11_ripe_2.2.2.2.2.2.1 1 rfl ?_
    refine R_callV (mc := 0) (ms := 0) (mc' := 0) (ms' := 0) (M' := M_X2_isRipe) (d' := 0) (as := []) (st := []) 2 0 e_X11_ripe_2.2.2.2.2.2.2.1 (kCVof m_X2_isRipe l_X11_365) rfl (by decide) (kLX hl2) (by decide) (by decide) rfl rfl (by show (0 : Nat) ≤ 8; decide) ?_
    refine Run.mono h (fun r12 s13 h => ?_)
    refine R_eqs (st2 := [vI r12]) rfl rfl ?_
    obtain ⟨q14, h⟩ := h
    refine R_if_eq 60 e_X11_ripe_2.2.2.2.2.2.2.2.1 (by decide) q14  (fun q => ?_) (fun q => ?_)
    · replace h := h.1 q
      refine R_aload_n e_X11_ripe_3.2.2.1 0 rfl ?_
      refine R_getA 11 8 31 e_X11_ripe_3.2.2.2.1 f_X11_47 kx_0 (fun _ _ => rfl) rx_0_8 (by decide) ?_
      refine R_aload_n e_X11_ripe_3.2.2.2.2.1 0 rfl ?_
      refine R_getA 11 10 58 e_X11_ripe_3.2.2.2.2.2.1 f_X11_64 kx_0 (fun _ _ => rfl) rx_0_10 (by decide) ?_
      refine R_callV (mc := 0) (ms := 0) (mc' := 0) (ms' := 0) (M' := M_X0_loseCrossed) (d' := 3) (as := [vA G 58]) (st := []) 0 1 e_X11_ripe_3.2.2.2.2.2.2.1 (kCVof m_X0_loseCrossed l_X11_371) rfl (by decide) (kC_self isC_31) (by decide) (by decide) rfl rfl (by show (0 : Nat) ≤ 8; decide) ?_
      refine Run.mono h (fun r15 s16 h => ?_)
      refine R_eqs (st2 := [vI r15]) rfl rfl ?_
      refine R_pop e_X11_ripe_3.2.2.2.2.2.2.2.1 rfl ?_
      refine R_aload_n e_X11_ripe_3.2.2.2.2.2.2.2.2.1 0 rfl ?_
      refine R_getA 11 10 58 e_X11_ripe_3.2.2.2.2.2.2.2.2.2 f_X11_64 kx_0 (fun _ _ => rfl) rx_0_10 (by decide) ?_
      refine R_aload_n e_X11_ripe_4.1 1 rfl ?_
      refine R_getI 2 1 1 e_X11_ripe_4.2.1 f_X11_278 (kLX hl2) (fun _ _ => rfl) rfl ?_
      refine R_aload_n e_X11_ripe_4.2.2.1 1 rfl ?_
      refine R_getI 2 2 2 e_X11_ripe_4.2.2.2.1 f_X11_281 (kLX hl2) (fun _ _ => rfl) rfl ?_
      refine R_callV (mc := 0) (ms := 0) (mc' := 0) (ms' := 0) (M' := M_X8_ownerOf) (d' := 0) (as := [vI (s16 l2 1), vI (s16 l2 2)]) (st := []) 8 2 e_X11_ripe_4.2.2.2.2.1 (kCVof m_X8_ownerOf l_X11_325) rfl (by decide) kx_58 (by decide) (by decide) rfl rfl (by show (0 : Nat) ≤ 8; decide) ?_
      refine Run.mono h (fun r17 s18 h => ?_)
      refine R_eqs (st2 := [vI r17]) rfl rfl ?_
      refine R_iconst e_X11_ripe_4.2.2.2.2.2.1 ?_
      obtain ⟨q19, h⟩ := h
      refine R_icmp_eq 95 e_X11_ripe_4.2.2.2.2.2.2.1 (by decide) q19 (by decide) (fun q => ?_) (fun q => ?_)
      · replace h := h.1 q
        refine R_aload_n e_X11_ripe_4.2.2.2.2.2.2.2.2.2 0 rfl ?_
        refine R_getA 11 8 31 e_X11_ripe_5.1 f_X11_47 kx_0 (fun _ _ => rfl) rx_0_8 (by decide) ?_
        refine R_dup e_X11_ripe_5.2.1 rfl ?_
        refine R_getI 0 4 4 e_X11_ripe_5.2.2.1 f_X11_212 (kC_self isC_31) (fun _ _ => rfl) rfl ?_
        refine R_iconst e_X11_ripe_5.2.2.2.1 ?_
        refine R_iadd e_X11_ripe_5.2.2.2.2.1 ?_
        refine R_putI 0 4 4 WX_ok e_X11_ripe_5.2.2.2.2.2.1 f_X11_212 (kC_self isC_31) rfl rfl rfl ?_
        refine R_iinc (ls2 := [(3, vI (l3 + 1)), (0, vA G 0), (2, vA G l2)]) e_X11_ripe_5.2.2.2.2.2.2.1 2 rfl (by decide) rfl ?_
        refine R_goto 40 e_X11_ripe_5.2.2.2.2.2.2.2.1 (by decide) ?_
        refine R_ls (ls2 := [(0, vA G 0), (2, vA G l2), (3, vI (l3 + 1))]) [1, 2, 0] rfl ?_
        exact h
      · replace h := h.2 q
        refine R_aload_n e_X11_ripe_4.2.2.2.2.2.2.2.1 1 rfl ?_
        refine R_callV (mc := 0) (ms := 0) (mc' := 0) (ms' := 0) (M' := M_X2_grow) (d' := 1) (as := []) (st := []) 2 0 e_X11_ripe_4.2.2.2.2.2.2.2.2.1 (kCVof m_X2_grow l_X11_375) rfl (by decide) (kLX hl2) (by decide) (by decide) rfl rfl (by show (0 : Nat) ≤ 8; decide) ?_
        refine Run.mono h (fun r20 s21 h => ?_)
        refine R_eqs (st2 := []) rfl rfl ?_
        refine R_aload_n e_X11_ripe_4.2.2.2.2.2.2.2.2.2 0 rfl ?_
        refine R_getA 11 8 31 e_X11_ripe_5.1 f_X11_47 kx_0 (fun _ _ => rfl) rx_0_8 (by decide) ?_
        refine R_dup e_X11_ripe_5.2.1 rfl ?_
        refine R_getI 0 4 4 e_X11_ripe_5.2.2.1 f_X11_212 (kC_self isC_31) (fun _ _ => rfl) rfl ?_
        refine R_iconst e_X11_ripe_5.2.2.2.1 ?_
        refine R_iadd e_X11_ripe_5.2.2.2.2.1 ?_
        refine R_putI 0 4 4 WX_ok e_X11_ripe_5.2.2.2.2.2.1 f_X11_212 (kC_self isC_31) rfl rfl rfl ?_
        refine R_iinc (ls2 := [(3, vI (l3 + 1)), (0, vA G 0), (2, vA G l2)]) e_X11_ripe_5.2.2.2.2.2.2.1 2 rfl (by decide) rfl ?_
        refine R_goto 40 e_X11_ripe_5.2.2.2.2.2.2.2.1 (by decide) ?_
        refine R_ls (ls2 := [(0, vA G 0), (2, vA G l2), (3, vI (l3 + 1))]) [1, 2, 0] rfl ?_
        exact h
    · replace h := h.2 q
      refine R_aload_n e_X11_ripe_2.2.2.2.2.2.2.2.2.1 0 rfl ?_
      refine R_iload_n e_X11_ripe_2.2.2.2.2.2.2.2.2.2 2 rfl ?_
      refine R_callV (mc := 0) (ms := 0) (mc' := 0) (ms' := 0) (M' := M_X11_give) (d' := 0) (as := [vI l3]) (st := []) 11 1 e_X11_ripe_3.1 (kCVof m_X11_give l_X11_176) rfl (by decide) kx_0 (by decide) (by decide) rfl rfl (by show (0 : Nat) ≤ 8; decide) ?_
      refine Run.mono h (fun r22 s23 h => ?_)
      refine R_eqs (st2 := [vI r22]) rfl rfl ?_
      exact R_ireturn e_X11_ripe_3.2.1 rfl h
/-! KiteLand.leaseOf(IIII)I -/
theorem e_X11_leaseOf_0 : decode cX11_leaseOf 0 = .ok (.aload_n 0, 1) ∧ decode cX11_leaseOf 1 = .ok (.getfield 43, 3) ∧ decode cX11_leaseOf 4 = .ok (.iload_n 1, 1) ∧ decode cX11_leaseOf 5 = .ok (.iload_n 2, 1) ∧ decode cX11_leaseOf 6 = .ok (.invokevirtual 321, 3) ∧ decode cX11_leaseOf 9 = .ok (.ifCond .eq 23, 3) ∧ decode cX11_leaseOf 12 = .ok (.aload_n 0, 1) ∧ decode cX11_leaseOf 13 = .ok (.getfield 43, 3) ∧ decode cX11_leaseOf 16 = .ok (.iload_n 3, 1) ∧ decode cX11_leaseOf 17 = .ok (.invokevirtual 238, 3) := by decide +kernel
theorem e_X11_leaseOf_1 : decode cX11_leaseOf 20 = .ok (.ifCond .eq 12, 3) ∧ decode cX11_leaseOf 23 = .ok (.aload_n 0, 1) ∧ decode cX11_leaseOf 24 = .ok (.iload 4, 2) ∧ decode cX11_leaseOf 26 = .ok (.invokevirtual 378, 3) ∧ decode cX11_leaseOf 29 = .ok (.ifCond .ne 9, 3) ∧ decode cX11_leaseOf 32 = .ok (.aload_n 0, 1) ∧ decode cX11_leaseOf 33 = .ok (.iconst 1, 1) ∧ decode cX11_leaseOf 34 = .ok (.invokevirtual 132, 3) ∧ decode cX11_leaseOf 37 = .ok (.ireturn, 1) ∧ decode cX11_leaseOf 38 = .ok (.aload_n 0, 1) := by decide +kernel
theorem e_X11_leaseOf_2 : decode cX11_leaseOf 39 = .ok (.getfield 47, 3) ∧ decode cX11_leaseOf 42 = .ok (.aload_n 0, 1) ∧ decode cX11_leaseOf 43 = .ok (.getfield 43, 3) ∧ decode cX11_leaseOf 46 = .ok (.invokevirtual 167, 3) ∧ decode cX11_leaseOf 49 = .ok (.iconst 0, 1) ∧ decode cX11_leaseOf 50 = .ok (.istore 5, 2) ∧ decode cX11_leaseOf 52 = .ok (.iconst 0, 1) ∧ decode cX11_leaseOf 53 = .ok (.istore 6, 2) ∧ decode cX11_leaseOf 55 = .ok (.iload 6, 2) ∧ decode cX11_leaseOf 57 = .ok (.iload 4, 2) := by decide +kernel
theorem e_X11_leaseOf_3 : decode cX11_leaseOf 59 = .ok (.if_icmp .ge 50, 3) ∧ decode cX11_leaseOf 62 = .ok (.aload_n 0, 1) ∧ decode cX11_leaseOf 63 = .ok (.getfield 47, 3) ∧ decode cX11_leaseOf 66 = .ok (.aload_n 0, 1) ∧ decode cX11_leaseOf 67 = .ok (.getfield 64, 3) ∧ decode cX11_leaseOf 70 = .ok (.invokevirtual 371, 3) ∧ decode cX11_leaseOf 73 = .ok (.pop, 1) ∧ decode cX11_leaseOf 74 = .ok (.aload_n 0, 1) ∧ decode cX11_leaseOf 75 = .ok (.getfield 64, 3) ∧ decode cX11_leaseOf 78 = .ok (.iload_n 1, 1) := by decide +kernel
theorem e_X11_leaseOf_4 : decode cX11_leaseOf 79 = .ok (.iload_n 2, 1) ∧ decode cX11_leaseOf 80 = .ok (.invokevirtual 325, 3) ∧ decode cX11_leaseOf 83 = .ok (.iload_n 3, 1) ∧ decode cX11_leaseOf 84 = .ok (.if_icmp .ne 6, 3) ∧ decode cX11_leaseOf 87 = .ok (.iinc 5 1, 3) ∧ decode cX11_leaseOf 90 = .ok (.aload_n 0, 1) ∧ decode cX11_leaseOf 91 = .ok (.getfield 47, 3) ∧ decode cX11_leaseOf 94 = .ok (.dup, 1) ∧ decode cX11_leaseOf 95 = .ok (.getfield 212, 3) ∧ decode cX11_leaseOf 98 = .ok (.iconst 1, 1) := by decide +kernel
theorem e_X11_leaseOf_5 : decode cX11_leaseOf 99 = .ok (.iadd, 1) ∧ decode cX11_leaseOf 100 = .ok (.putfield 212, 3) ∧ decode cX11_leaseOf 103 = .ok (.iinc 6 1, 3) ∧ decode cX11_leaseOf 106 = .ok (.goto (-51), 3) ∧ decode cX11_leaseOf 109 = .ok (.aload_n 0, 1) ∧ decode cX11_leaseOf 110 = .ok (.iload 5, 2) ∧ decode cX11_leaseOf 112 = .ok (.invokevirtual 176, 3) ∧ decode cX11_leaseOf 115 = .ok (.ireturn, 1) := by decide +kernel
abbrev E_X11_leaseOf_55 (G : Kg) (l1 l2 l3 l4 l5 l6 : Int) (σ : Kmem) (Q : Int → Kmem → Prop) : Prop := Ex G WX M_X11_leaseOf 4 0 0 55 [(0, vA G 0), (1, vI l1), (2, vI l2), (3, vI l3), (4, vI l4), (5, vI l5), (6, vI l6)] [] σ Q
theorem S_X11_leaseOf {G : Kg} {σ : Kmem} {Q : Int → Kmem → Prop} {l1 l2 l3 l4 : Int}  (h : Run G WX M_X0_hasField 1 0 0 [vA G 5, vI l1, vI l2] σ (fun r1 s2 => (rI r1) ∧ ((r1 = 0 → Run G WX M_X11_deny 0 0 0 [vA G 0, vI 1] s2 (fun r4 s5 => Q r4 s5)) ∧ (r1 ≠ 0 → Run G WX M_X0_hasKite 0 0 0 [vA G 5, vI l3] s2 (fun r6 s7 => (rI r6) ∧ ((r6 = 0 → Run G WX M_X11_deny 0 0 0 [vA G 0, vI 1] s7 (fun r9 s10 => Q r9 s10)) ∧ (r6 ≠ 0 → Run G WX M_X11_isAhead 0 0 0 [vA G 0, vI l4] s7 (fun r11 s12 => (rI r11) ∧ ((r11 ≠ 0 → Run G WX M_X0_copy 1 0 0 [vA G 31, vA G 5] s12 (fun r14 s15 => E_X11_leaseOf_55 G l1 l2 l3 l4 0 0 s15 Q)) ∧ (r11 = 0 → Run G WX M_X11_deny 0 0 0 [vA G 0, vI 1] s12 (fun r16 s17 => Q r16 s17))))))))))) : Run G WX M_X11_leaseOf 4 0 0 [vA G 0, vI l1, vI l2, vI l3, vI l4] σ Q := by
  refine Run.of (by decide +kernel) (by show (5 : Nat) ≤ 7; decide) ?_
  show Ex G WX M_X11_leaseOf 4 0 0 0 [(0, vA G 0), (1, vI l1), (2, vI l2), (3, vI l3), (4, vI l4)] [] σ Q
  refine R_aload_n e_X11_leaseOf_0.1 0 rfl ?_
  refine R_getA 11 7 5 e_X11_leaseOf_0.2.1 f_X11_43 kx_0 (fun _ _ => rfl) rx_0_7 (by decide) ?_
  refine R_iload_n e_X11_leaseOf_0.2.2.1 1 rfl ?_
  refine R_iload_n e_X11_leaseOf_0.2.2.2.1 2 rfl ?_
  refine R_callV (mc := 0) (ms := 0) (mc' := 0) (ms' := 0) (M' := M_X0_hasField) (d' := 1) (as := [vI l1, vI l2]) (st := []) 0 2 e_X11_leaseOf_0.2.2.2.2.1 (kCVof m_X0_hasField l_X11_321) rfl (by decide) (kC_self isC_5) (by decide) (by decide) rfl rfl (by show (0 : Nat) ≤ 8; decide) ?_
  refine Run.mono h (fun r1 s2 h => ?_)
  refine R_eqs (st2 := [vI r1]) rfl rfl ?_
  obtain ⟨q3, h⟩ := h
  refine R_if_eq 32 e_X11_leaseOf_0.2.2.2.2.2.1 (by decide) q3  (fun q => ?_) (fun q => ?_)
  · replace h := h.1 q
    refine R_aload_n e_X11_leaseOf_1.2.2.2.2.2.1 0 rfl ?_
    refine R_iconst e_X11_leaseOf_1.2.2.2.2.2.2.1 ?_
    refine R_callV (mc := 0) (ms := 0) (mc' := 0) (ms' := 0) (M' := M_X11_deny) (d' := 0) (as := [vI 1]) (st := []) 11 1 e_X11_leaseOf_1.2.2.2.2.2.2.2.1 (kCVof m_X11_deny l_X11_132) rfl (by decide) kx_0 (by decide) (by decide) rfl rfl (by show (0 : Nat) ≤ 8; decide) ?_
    refine Run.mono h (fun r4 s5 h => ?_)
    refine R_eqs (st2 := [vI r4]) rfl rfl ?_
    exact R_ireturn e_X11_leaseOf_1.2.2.2.2.2.2.2.2.1 rfl h
  · replace h := h.2 q
    refine R_aload_n e_X11_leaseOf_0.2.2.2.2.2.2.1 0 rfl ?_
    refine R_getA 11 7 5 e_X11_leaseOf_0.2.2.2.2.2.2.2.1 f_X11_43 kx_0 (fun _ _ => rfl) rx_0_7 (by decide) ?_
    refine R_iload_n e_X11_leaseOf_0.2.2.2.2.2.2.2.2.1 3 rfl ?_
    refine R_callV (mc := 0) (ms := 0) (mc' := 0) (ms' := 0) (M' := M_X0_hasKite) (d' := 0) (as := [vI l3]) (st := []) 0 1 e_X11_leaseOf_0.2.2.2.2.2.2.2.2.2 (kCVof m_X0_hasKite l_X11_238) rfl (by decide) (kC_self isC_5) (by decide) (by decide) rfl rfl (by show (0 : Nat) ≤ 8; decide) ?_
    refine Run.mono h (fun r6 s7 h => ?_)
    refine R_eqs (st2 := [vI r6]) rfl rfl ?_
    obtain ⟨q8, h⟩ := h
    refine R_if_eq 32 e_X11_leaseOf_1.1 (by decide) q8  (fun q => ?_) (fun q => ?_)
    · replace h := h.1 q
      refine R_aload_n e_X11_leaseOf_1.2.2.2.2.2.1 0 rfl ?_
      refine R_iconst e_X11_leaseOf_1.2.2.2.2.2.2.1 ?_
      refine R_callV (mc := 0) (ms := 0) (mc' := 0) (ms' := 0) (M' := M_X11_deny) (d' := 0) (as := [vI 1]) (st := []) 11 1 e_X11_leaseOf_1.2.2.2.2.2.2.2.1 (kCVof m_X11_deny l_X11_132) rfl (by decide) kx_0 (by decide) (by decide) rfl rfl (by show (0 : Nat) ≤ 8; decide) ?_
      refine Run.mono h (fun r9 s10 h => ?_)
      refine R_eqs (st2 := [vI r9]) rfl rfl ?_
      exact R_ireturn e_X11_leaseOf_1.2.2.2.2.2.2.2.2.1 rfl h
    · replace h := h.2 q
      refine R_aload_n e_X11_leaseOf_1.2.1 0 rfl ?_
      refine R_iload e_X11_leaseOf_1.2.2.1 4 rfl ?_
      refine R_callV (mc := 0) (ms := 0) (mc' := 0) (ms' := 0) (M' := M_X11_isAhead) (d' := 0) (as := [vI l4]) (st := []) 11 1 e_X11_leaseOf_1.2.2.2.1 (kCVof m_X11_isAhead l_X11_378) rfl (by decide) kx_0 (by decide) (by decide) rfl rfl (by show (0 : Nat) ≤ 8; decide) ?_
      refine Run.mono h (fun r11 s12 h => ?_)
      refine R_eqs (st2 := [vI r11]) rfl rfl ?_
      obtain ⟨q13, h⟩ := h
      refine R_if_ne 38 e_X11_leaseOf_1.2.2.2.2.1 (by decide) q13  (fun q => ?_) (fun q => ?_)
      · replace h := h.1 q
        refine R_aload_n e_X11_leaseOf_1.2.2.2.2.2.2.2.2.2 0 rfl ?_
        refine R_getA 11 8 31 e_X11_leaseOf_2.1 f_X11_47 kx_0 (fun _ _ => rfl) rx_0_8 (by decide) ?_
        refine R_aload_n e_X11_leaseOf_2.2.1 0 rfl ?_
        refine R_getA 11 7 5 e_X11_leaseOf_2.2.2.1 f_X11_43 kx_0 (fun _ _ => rfl) rx_0_7 (by decide) ?_
        refine R_callV (mc := 0) (ms := 0) (mc' := 0) (ms' := 0) (M' := M_X0_copy) (d' := 1) (as := [vA G 5]) (st := []) 0 1 e_X11_leaseOf_2.2.2.2.1 (kCVof m_X0_copy l_X11_167) rfl (by decide) (kC_self isC_31) (by decide) (by decide) rfl rfl (by show (0 : Nat) ≤ 8; decide) ?_
        refine Run.mono h (fun r14 s15 h => ?_)
        refine R_eqs (st2 := []) rfl rfl ?_
        refine R_iconst e_X11_leaseOf_2.2.2.2.2.1 ?_
        refine R_istore (ls2 := [(5, vI 0), (0, vA G 0), (1, vI l1), (2, vI l2), (3, vI l3), (4, vI l4)]) e_X11_leaseOf_2.2.2.2.2.2.1 (by decide) rfl ?_
        refine R_iconst e_X11_leaseOf_2.2.2.2.2.2.2.1 ?_
        refine R_istore (ls2 := [(6, vI 0), (5, vI 0), (0, vA G 0), (1, vI l1), (2, vI l2), (3, vI l3), (4, vI l4)]) e_X11_leaseOf_2.2.2.2.2.2.2.2.1 (by decide) rfl ?_
        refine R_ls (ls2 := [(0, vA G 0), (1, vI l1), (2, vI l2), (3, vI l3), (4, vI l4), (5, vI 0), (6, vI 0)]) [2, 3, 4, 5, 6, 1, 0] rfl ?_
        exact h
      · replace h := h.2 q
        refine R_aload_n e_X11_leaseOf_1.2.2.2.2.2.1 0 rfl ?_
        refine R_iconst e_X11_leaseOf_1.2.2.2.2.2.2.1 ?_
        refine R_callV (mc := 0) (ms := 0) (mc' := 0) (ms' := 0) (M' := M_X11_deny) (d' := 0) (as := [vI 1]) (st := []) 11 1 e_X11_leaseOf_1.2.2.2.2.2.2.2.1 (kCVof m_X11_deny l_X11_132) rfl (by decide) kx_0 (by decide) (by decide) rfl rfl (by show (0 : Nat) ≤ 8; decide) ?_
        refine Run.mono h (fun r16 s17 h => ?_)
        refine R_eqs (st2 := [vI r16]) rfl rfl ?_
        exact R_ireturn e_X11_leaseOf_1.2.2.2.2.2.2.2.2.1 rfl h
theorem S_X11_leaseOf_55 {G : Kg} {σ : Kmem} {Q : Int → Kmem → Prop} {l1 l2 l3 l4 l5 l6 : Int}  (h : (rI l6) ∧ (rI l4) ∧ ((l4 ≤ l6 → Run G WX M_X11_give 0 0 0 [vA G 0, vI l5] σ (fun r20 s21 => Q r20 s21)) ∧ (l6 < l4 → Run G WX M_X0_loseCrossed 3 0 0 [vA G 31, vA G 58] σ (fun r22 s23 => Run G WX M_X8_ownerOf 0 0 0 [vA G 58, vI l1, vI l2] s23 (fun r24 s25 => (rI r24) ∧ (rI l3) ∧ ((r24 ≠ l3 → E_X11_leaseOf_55 G l1 l2 l3 l4 l5 (l6 + 1) (kup s25 31 4 ((s25 31 4) + 1)) Q) ∧ (r24 = l3 → E_X11_leaseOf_55 G l1 l2 l3 l4 (l5 + 1) (l6 + 1) (kup s25 31 4 ((s25 31 4) + 1)) Q))))))) : E_X11_leaseOf_55 G l1 l2 l3 l4 l5 l6 σ Q := by
  refine R_iload e_X11_leaseOf_2.2.2.2.2.2.2.2.2.1 6 rfl ?_
  refine R_iload e_X11_leaseOf_2.2.2.2.2.2.2.2.2.2 4 rfl ?_
  obtain ⟨q18, h⟩ := h
  obtain ⟨q19, h⟩ := h
  refine R_icmp_ge 109 e_X11_leaseOf_3.1 (by decide) q18 q19 (fun q => ?_) (fun q => ?_)
  · replace h := h.1 q
    refine R_aload_n e_X11_leaseOf_5.2.2.2.2.1 0 rfl ?_
    refine R_iload e_X11_leaseOf_5.2.2.2.2.2.1 5 rfl ?_
    refine R_callV (mc := 0) (ms := 0) (mc' := 0) (ms' := 0) (M' := M_X11_give) (d' := 0) (as := [vI l5]) (st := []) 11 1 e_X11_leaseOf_5.2.2.2.2.2.2.1 (kCVof m_X11_give l_X11_176) rfl (by decide) kx_0 (by decide) (by decide) rfl rfl (by show (0 : Nat) ≤ 8; decide) ?_
    refine Run.mono h (fun r20 s21 h => ?_)
    refine R_eqs (st2 := [vI r20]) rfl rfl ?_
    exact R_ireturn e_X11_leaseOf_5.2.2.2.2.2.2.2 rfl h
  · replace h := h.2 q
    refine R_aload_n e_X11_leaseOf_3.2.1 0 rfl ?_
    refine R_getA 11 8 31 e_X11_leaseOf_3.2.2.1 f_X11_47 kx_0 (fun _ _ => rfl) rx_0_8 (by decide) ?_
    refine R_aload_n e_X11_leaseOf_3.2.2.2.1 0 rfl ?_
    refine R_getA 11 10 58 e_X11_leaseOf_3.2.2.2.2.1 f_X11_64 kx_0 (fun _ _ => rfl) rx_0_10 (by decide) ?_
    refine R_callV (mc := 0) (ms := 0) (mc' := 0) (ms' := 0) (M' := M_X0_loseCrossed) (d' := 3) (as := [vA G 58]) (st := []) 0 1 e_X11_leaseOf_3.2.2.2.2.2.1 (kCVof m_X0_loseCrossed l_X11_371) rfl (by decide) (kC_self isC_31) (by decide) (by decide) rfl rfl (by show (0 : Nat) ≤ 8; decide) ?_
    refine Run.mono h (fun r22 s23 h => ?_)
    refine R_eqs (st2 := [vI r22]) rfl rfl ?_
    refine R_pop e_X11_leaseOf_3.2.2.2.2.2.2.1 rfl ?_
    refine R_aload_n e_X11_leaseOf_3.2.2.2.2.2.2.2.1 0 rfl ?_
    refine R_getA 11 10 58 e_X11_leaseOf_3.2.2.2.2.2.2.2.2.1 f_X11_64 kx_0 (fun _ _ => rfl) rx_0_10 (by decide) ?_
    refine R_iload_n e_X11_leaseOf_3.2.2.2.2.2.2.2.2.2 1 rfl ?_
    refine R_iload_n e_X11_leaseOf_4.1 2 rfl ?_
    refine R_callV (mc := 0) (ms := 0) (mc' := 0) (ms' := 0) (M' := M_X8_ownerOf) (d' := 0) (as := [vI l1, vI l2]) (st := []) 8 2 e_X11_leaseOf_4.2.1 (kCVof m_X8_ownerOf l_X11_325) rfl (by decide) kx_58 (by decide) (by decide) rfl rfl (by show (0 : Nat) ≤ 8; decide) ?_
    refine Run.mono h (fun r24 s25 h => ?_)
    refine R_eqs (st2 := [vI r24]) rfl rfl ?_
    refine R_iload_n e_X11_leaseOf_4.2.2.1 3 rfl ?_
    obtain ⟨q26, h⟩ := h
    obtain ⟨q27, h⟩ := h
    refine R_icmp_ne 90 e_X11_leaseOf_4.2.2.2.1 (by decide) q26 q27 (fun q => ?_) (fun q => ?_)
    · replace h := h.1 q
      refine R_aload_n e_X11_leaseOf_4.2.2.2.2.2.1 0 rfl ?_
      refine R_getA 11 8 31 e_X11_leaseOf_4.2.2.2.2.2.2.1 f_X11_47 kx_0 (fun _ _ => rfl) rx_0_8 (by decide) ?_
      refine R_dup e_X11_leaseOf_4.2.2.2.2.2.2.2.1 rfl ?_
      refine R_getI 0 4 4 e_X11_leaseOf_4.2.2.2.2.2.2.2.2.1 f_X11_212 (kC_self isC_31) (fun _ _ => rfl) rfl ?_
      refine R_iconst e_X11_leaseOf_4.2.2.2.2.2.2.2.2.2 ?_
      refine R_iadd e_X11_leaseOf_5.1 ?_
      refine R_putI 0 4 4 WX_ok e_X11_leaseOf_5.2.1 f_X11_212 (kC_self isC_31) rfl rfl rfl ?_
      refine R_iinc (ls2 := [(6, vI (l6 + 1)), (0, vA G 0), (1, vI l1), (2, vI l2), (3, vI l3), (4, vI l4), (5, vI l5)]) e_X11_leaseOf_5.2.2.1 6 rfl (by decide) rfl ?_
      refine R_goto 55 e_X11_leaseOf_5.2.2.2.1 (by decide) ?_
      refine R_ls (ls2 := [(0, vA G 0), (1, vI l1), (2, vI l2), (3, vI l3), (4, vI l4), (5, vI l5), (6, vI (l6 + 1))]) [1, 2, 3, 4, 5, 6, 0] rfl ?_
      exact h
    · replace h := h.2 q
      refine R_iinc (ls2 := [(5, vI (l5 + 1)), (0, vA G 0), (1, vI l1), (2, vI l2), (3, vI l3), (4, vI l4), (6, vI l6)]) e_X11_leaseOf_4.2.2.2.2.1 5 rfl (by decide) rfl ?_
      refine R_aload_n e_X11_leaseOf_4.2.2.2.2.2.1 1 rfl ?_
      refine R_getA 11 8 31 e_X11_leaseOf_4.2.2.2.2.2.2.1 f_X11_47 kx_0 (fun _ _ => rfl) rx_0_8 (by decide) ?_
      refine R_dup e_X11_leaseOf_4.2.2.2.2.2.2.2.1 rfl ?_
      refine R_getI 0 4 4 e_X11_leaseOf_4.2.2.2.2.2.2.2.2.1 f_X11_212 (kC_self isC_31) (fun _ _ => rfl) rfl ?_
      refine R_iconst e_X11_leaseOf_4.2.2.2.2.2.2.2.2.2 ?_
      refine R_iadd e_X11_leaseOf_5.1 ?_
      refine R_putI 0 4 4 WX_ok e_X11_leaseOf_5.2.1 f_X11_212 (kC_self isC_31) rfl rfl rfl ?_
      refine R_iinc (ls2 := [(6, vI (l6 + 1)), (5, vI (l5 + 1)), (0, vA G 0), (1, vI l1), (2, vI l2), (3, vI l3), (4, vI l4)]) e_X11_leaseOf_5.2.2.1 6 rfl (by decide) rfl ?_
      refine R_goto 55 e_X11_leaseOf_5.2.2.2.1 (by decide) ?_
      refine R_ls (ls2 := [(0, vA G 0), (1, vI l1), (2, vI l2), (3, vI l3), (4, vI l4), (5, vI (l5 + 1)), (6, vI (l6 + 1))]) [2, 3, 4, 5, 6, 1, 0] rfl ?_
      exact h
/-! KiteLand.plant(I)I -/
theorem e_X11_plant_0 : decode cX11_plant 0 = .ok (.iload_n 1, 1) ∧ decode cX11_plant 1 = .ok (.iconst 1, 1) ∧ decode cX11_plant 2 = .ok (.if_icmp .lt 9, 3) ∧ decode cX11_plant 5 = .ok (.iload_n 1, 1) ∧ decode cX11_plant 6 = .ok (.bipush 99, 2) ∧ decode cX11_plant 8 = .ok (.if_icmp .le 9, 3) ∧ decode cX11_plant 11 = .ok (.aload_n 0, 1) ∧ decode cX11_plant 12 = .ok (.iconst 1, 1) ∧ decode cX11_plant 13 = .ok (.invokevirtual 132, 3) ∧ decode cX11_plant 16 = .ok (.ireturn, 1) := by decide +kernel
theorem e_X11_plant_1 : decode cX11_plant 17 = .ok (.aload_n 0, 1) ∧ decode cX11_plant 18 = .ok (.getfield 43, 3) ∧ decode cX11_plant 21 = .ok (.invokevirtual 346, 3) ∧ decode cX11_plant 24 = .ok (.ifCond .ne 10, 3) ∧ decode cX11_plant 27 = .ok (.aload_n 0, 1) ∧ decode cX11_plant 28 = .ok (.bipush 6, 2) ∧ decode cX11_plant 30 = .ok (.invokevirtual 132, 3) ∧ decode cX11_plant 33 = .ok (.ireturn, 1) ∧ decode cX11_plant 34 = .ok (.aload_n 0, 1) ∧ decode cX11_plant 35 = .ok (.getfield 47, 3) := by decide +kernel
theorem e_X11_plant_2 : decode cX11_plant 38 = .ok (.aload_n 0, 1) ∧ decode cX11_plant 39 = .ok (.getfield 43, 3) ∧ decode cX11_plant 42 = .ok (.invokevirtual 167, 3) ∧ decode cX11_plant 45 = .ok (.aload_n 0, 1) ∧ decode cX11_plant 46 = .ok (.getfield 93, 3) ∧ decode cX11_plant 49 = .ok (.iload_n 1, 1) ∧ decode cX11_plant 50 = .ok (.invokevirtual 381, 3) ∧ decode cX11_plant 53 = .ok (.aload_n 0, 1) ∧ decode cX11_plant 54 = .ok (.aload_n 0, 1) ∧ decode cX11_plant 55 = .ok (.getfield 93, 3) := by decide +kernel
theorem e_X11_plant_3 : decode cX11_plant 58 = .ok (.getfield 384, 3) ∧ decode cX11_plant 61 = .ok (.invokevirtual 176, 3) ∧ decode cX11_plant 64 = .ok (.ireturn, 1) := by decide +kernel
theorem S_X11_plant {G : Kg} {σ : Kmem} {Q : Int → Kmem → Prop} {l1 : Int}  (h : (rI l1) ∧ ((l1 < 1 → Run G WX M_X11_deny 0 0 0 [vA G 0, vI 1] σ (fun r2 s3 => Q r2 s3)) ∧ (1 ≤ l1 → ((l1 ≤ 99 → Run G WX M_X0_hasLand 0 0 0 [vA G 5] σ (fun r4 s5 => (rI r4) ∧ ((r4 ≠ 0 → Run G WX M_X0_copy 1 0 0 [vA G 31, vA G 5] s5 (fun r7 s8 => Run G WX M_X5_seekPlanting 4 0 0 [vA G 82, vI l1] s8 (fun r9 s10 => Run G WX M_X11_give 0 0 0 [vA G 0, vI (s10 82 2)] s10 (fun r11 s12 => Q r11 s12)))) ∧ (r4 = 0 → Run G WX M_X11_deny 0 0 0 [vA G 0, vI 6] s5 (fun r13 s14 => Q r13 s14))))) ∧ (99 < l1 → Run G WX M_X11_deny 0 0 0 [vA G 0, vI 1] σ (fun r15 s16 => Q r15 s16)))))) : Run G WX M_X11_plant 5 0 0 [vA G 0, vI l1] σ Q := by
  refine Run.of (by decide +kernel) (by show (2 : Nat) ≤ 2; decide) ?_
  show Ex G WX M_X11_plant 5 0 0 0 [(0, vA G 0), (1, vI l1)] [] σ Q
  refine R_iload_n e_X11_plant_0.1 1 rfl ?_
  refine R_iconst e_X11_plant_0.2.1 ?_
  obtain ⟨q1, h⟩ := h
  refine R_icmp_lt 11 e_X11_plant_0.2.2.1 (by decide) q1 (by decide) (fun q => ?_) (fun q => ?_)
  · replace h := h.1 q
    refine R_aload_n e_X11_plant_0.2.2.2.2.2.2.1 0 rfl ?_
    refine R_iconst e_X11_plant_0.2.2.2.2.2.2.2.1 ?_
    refine R_callV (mc := 0) (ms := 0) (mc' := 0) (ms' := 0) (M' := M_X11_deny) (d' := 0) (as := [vI 1]) (st := []) 11 1 e_X11_plant_0.2.2.2.2.2.2.2.2.1 (kCVof m_X11_deny l_X11_132) rfl (by decide) kx_0 (by decide) (by decide) rfl rfl (by show (0 : Nat) ≤ 8; decide) ?_
    refine Run.mono h (fun r2 s3 h => ?_)
    refine R_eqs (st2 := [vI r2]) rfl rfl ?_
    exact R_ireturn e_X11_plant_0.2.2.2.2.2.2.2.2.2 rfl h
  · replace h := h.2 q
    refine R_iload_n e_X11_plant_0.2.2.2.1 1 rfl ?_
    refine R_bipush e_X11_plant_0.2.2.2.2.1 (by decide) ?_
    refine R_icmp_le 17 e_X11_plant_0.2.2.2.2.2.1 (by decide) q1 (by decide) (fun q => ?_) (fun q => ?_)
    · replace h := h.1 q
      refine R_aload_n e_X11_plant_1.1 0 rfl ?_
      refine R_getA 11 7 5 e_X11_plant_1.2.1 f_X11_43 kx_0 (fun _ _ => rfl) rx_0_7 (by decide) ?_
      refine R_callV (mc := 0) (ms := 0) (mc' := 0) (ms' := 0) (M' := M_X0_hasLand) (d' := 0) (as := []) (st := []) 0 0 e_X11_plant_1.2.2.1 (kCVof m_X0_hasLand l_X11_346) rfl (by decide) (kC_self isC_5) (by decide) (by decide) rfl rfl (by show (0 : Nat) ≤ 8; decide) ?_
      refine Run.mono h (fun r4 s5 h => ?_)
      refine R_eqs (st2 := [vI r4]) rfl rfl ?_
      obtain ⟨q6, h⟩ := h
      refine R_if_ne 34 e_X11_plant_1.2.2.2.1 (by decide) q6  (fun q => ?_) (fun q => ?_)
      · replace h := h.1 q
        refine R_aload_n e_X11_plant_1.2.2.2.2.2.2.2.2.1 0 rfl ?_
        refine R_getA 11 8 31 e_X11_plant_1.2.2.2.2.2.2.2.2.2 f_X11_47 kx_0 (fun _ _ => rfl) rx_0_8 (by decide) ?_
        refine R_aload_n e_X11_plant_2.1 0 rfl ?_
        refine R_getA 11 7 5 e_X11_plant_2.2.1 f_X11_43 kx_0 (fun _ _ => rfl) rx_0_7 (by decide) ?_
        refine R_callV (mc := 0) (ms := 0) (mc' := 0) (ms' := 0) (M' := M_X0_copy) (d' := 1) (as := [vA G 5]) (st := []) 0 1 e_X11_plant_2.2.2.1 (kCVof m_X0_copy l_X11_167) rfl (by decide) (kC_self isC_31) (by decide) (by decide) rfl rfl (by show (0 : Nat) ≤ 8; decide) ?_
        refine Run.mono h (fun r7 s8 h => ?_)
        refine R_eqs (st2 := []) rfl rfl ?_
        refine R_aload_n e_X11_plant_2.2.2.2.1 0 rfl ?_
        refine R_getA 11 15 82 e_X11_plant_2.2.2.2.2.1 f_X11_93 kx_0 (fun _ _ => rfl) rx_0_15 (by decide) ?_
        refine R_iload_n e_X11_plant_2.2.2.2.2.2.1 1 rfl ?_
        refine R_callV (mc := 0) (ms := 0) (mc' := 0) (ms' := 0) (M' := M_X5_seekPlanting) (d' := 4) (as := [vI l1]) (st := []) 5 1 e_X11_plant_2.2.2.2.2.2.2.1 (kCVof m_X5_seekPlanting l_X11_381) rfl (by decide) kx_82 (by decide) (by decide) rfl rfl (by show (0 : Nat) ≤ 8; decide) ?_
        refine Run.mono h (fun r9 s10 h => ?_)
        refine R_eqs (st2 := []) rfl rfl ?_
        refine R_aload_n e_X11_plant_2.2.2.2.2.2.2.2.1 0 rfl ?_
        refine R_aload_n e_X11_plant_2.2.2.2.2.2.2.2.2.1 0 rfl ?_
        refine R_getA 11 15 82 e_X11_plant_2.2.2.2.2.2.2.2.2.2 f_X11_93 kx_0 (fun _ _ => rfl) rx_0_15 (by decide) ?_
        refine R_getI 5 2 2 e_X11_plant_3.1 f_X11_384 kx_82 (fun _ _ => rfl) rfl ?_
        refine R_callV (mc := 0) (ms := 0) (mc' := 0) (ms' := 0) (M' := M_X11_give) (d' := 0) (as := [vI (s10 82 2)]) (st := []) 11 1 e_X11_plant_3.2.1 (kCVof m_X11_give l_X11_176) rfl (by decide) kx_0 (by decide) (by decide) rfl rfl (by show (0 : Nat) ≤ 8; decide) ?_
        refine Run.mono h (fun r11 s12 h => ?_)
        refine R_eqs (st2 := [vI r11]) rfl rfl ?_
        exact R_ireturn e_X11_plant_3.2.2 rfl h
      · replace h := h.2 q
        refine R_aload_n e_X11_plant_1.2.2.2.2.1 0 rfl ?_
        refine R_bipush e_X11_plant_1.2.2.2.2.2.1 (by decide) ?_
        refine R_callV (mc := 0) (ms := 0) (mc' := 0) (ms' := 0) (M' := M_X11_deny) (d' := 0) (as := [vI 6]) (st := []) 11 1 e_X11_plant_1.2.2.2.2.2.2.1 (kCVof m_X11_deny l_X11_132) rfl (by decide) kx_0 (by decide) (by decide) rfl rfl (by show (0 : Nat) ≤ 8; decide) ?_
        refine Run.mono h (fun r13 s14 h => ?_)
        refine R_eqs (st2 := [vI r13]) rfl rfl ?_
        exact R_ireturn e_X11_plant_1.2.2.2.2.2.2.2.1 rfl h
    · replace h := h.2 q
      refine R_aload_n e_X11_plant_0.2.2.2.2.2.2.1 0 rfl ?_
      refine R_iconst e_X11_plant_0.2.2.2.2.2.2.2.1 ?_
      refine R_callV (mc := 0) (ms := 0) (mc' := 0) (ms' := 0) (M' := M_X11_deny) (d' := 0) (as := [vI 1]) (st := []) 11 1 e_X11_plant_0.2.2.2.2.2.2.2.2.1 (kCVof m_X11_deny l_X11_132) rfl (by decide) kx_0 (by decide) (by decide) rfl rfl (by show (0 : Nat) ≤ 8; decide) ?_
      refine Run.mono h (fun r15 s16 h => ?_)
      refine R_eqs (st2 := [vI r15]) rfl rfl ?_
      exact R_ireturn e_X11_plant_0.2.2.2.2.2.2.2.2.2 rfl h
/-! KiteLand.planted(I)I -/
theorem e_X11_planted_0 : decode cX11_planted 0 = .ok (.iload_n 1, 1) ∧ decode cX11_planted 1 = .ok (.iconst 1, 1) ∧ decode cX11_planted 2 = .ok (.if_icmp .lt 9, 3) ∧ decode cX11_planted 5 = .ok (.iload_n 1, 1) ∧ decode cX11_planted 6 = .ok (.bipush 99, 2) ∧ decode cX11_planted 8 = .ok (.if_icmp .le 9, 3) ∧ decode cX11_planted 11 = .ok (.aload_n 0, 1) ∧ decode cX11_planted 12 = .ok (.iconst 1, 1) ∧ decode cX11_planted 13 = .ok (.invokevirtual 132, 3) ∧ decode cX11_planted 16 = .ok (.ireturn, 1) := by decide +kernel
theorem e_X11_planted_1 : decode cX11_planted 17 = .ok (.aload_n 0, 1) ∧ decode cX11_planted 18 = .ok (.getfield 43, 3) ∧ decode cX11_planted 21 = .ok (.invokevirtual 346, 3) ∧ decode cX11_planted 24 = .ok (.ifCond .ne 10, 3) ∧ decode cX11_planted 27 = .ok (.aload_n 0, 1) ∧ decode cX11_planted 28 = .ok (.bipush 6, 2) ∧ decode cX11_planted 30 = .ok (.invokevirtual 132, 3) ∧ decode cX11_planted 33 = .ok (.ireturn, 1) ∧ decode cX11_planted 34 = .ok (.aload_n 0, 1) ∧ decode cX11_planted 35 = .ok (.getfield 47, 3) := by decide +kernel
theorem e_X11_planted_2 : decode cX11_planted 38 = .ok (.aload_n 0, 1) ∧ decode cX11_planted 39 = .ok (.getfield 43, 3) ∧ decode cX11_planted 42 = .ok (.invokevirtual 167, 3) ∧ decode cX11_planted 45 = .ok (.aload_n 0, 1) ∧ decode cX11_planted 46 = .ok (.getfield 93, 3) ∧ decode cX11_planted 49 = .ok (.iload_n 1, 1) ∧ decode cX11_planted 50 = .ok (.invokevirtual 381, 3) ∧ decode cX11_planted 53 = .ok (.aload_n 0, 1) ∧ decode cX11_planted 54 = .ok (.aload_n 0, 1) ∧ decode cX11_planted 55 = .ok (.getfield 93, 3) := by decide +kernel
theorem e_X11_planted_3 : decode cX11_planted 58 = .ok (.getfield 387, 3) ∧ decode cX11_planted 61 = .ok (.invokevirtual 176, 3) ∧ decode cX11_planted 64 = .ok (.ireturn, 1) := by decide +kernel
theorem S_X11_planted {G : Kg} {σ : Kmem} {Q : Int → Kmem → Prop} {l1 : Int}  (h : (rI l1) ∧ ((l1 < 1 → Run G WX M_X11_deny 0 0 0 [vA G 0, vI 1] σ (fun r2 s3 => Q r2 s3)) ∧ (1 ≤ l1 → ((l1 ≤ 99 → Run G WX M_X0_hasLand 0 0 0 [vA G 5] σ (fun r4 s5 => (rI r4) ∧ ((r4 ≠ 0 → Run G WX M_X0_copy 1 0 0 [vA G 31, vA G 5] s5 (fun r7 s8 => Run G WX M_X5_seekPlanting 4 0 0 [vA G 82, vI l1] s8 (fun r9 s10 => Run G WX M_X11_give 0 0 0 [vA G 0, vI (s10 82 3)] s10 (fun r11 s12 => Q r11 s12)))) ∧ (r4 = 0 → Run G WX M_X11_deny 0 0 0 [vA G 0, vI 6] s5 (fun r13 s14 => Q r13 s14))))) ∧ (99 < l1 → Run G WX M_X11_deny 0 0 0 [vA G 0, vI 1] σ (fun r15 s16 => Q r15 s16)))))) : Run G WX M_X11_planted 5 0 0 [vA G 0, vI l1] σ Q := by
  refine Run.of (by decide +kernel) (by show (2 : Nat) ≤ 2; decide) ?_
  show Ex G WX M_X11_planted 5 0 0 0 [(0, vA G 0), (1, vI l1)] [] σ Q
  refine R_iload_n e_X11_planted_0.1 1 rfl ?_
  refine R_iconst e_X11_planted_0.2.1 ?_
  obtain ⟨q1, h⟩ := h
  refine R_icmp_lt 11 e_X11_planted_0.2.2.1 (by decide) q1 (by decide) (fun q => ?_) (fun q => ?_)
  · replace h := h.1 q
    refine R_aload_n e_X11_planted_0.2.2.2.2.2.2.1 0 rfl ?_
    refine R_iconst e_X11_planted_0.2.2.2.2.2.2.2.1 ?_
    refine R_callV (mc := 0) (ms := 0) (mc' := 0) (ms' := 0) (M' := M_X11_deny) (d' := 0) (as := [vI 1]) (st := []) 11 1 e_X11_planted_0.2.2.2.2.2.2.2.2.1 (kCVof m_X11_deny l_X11_132) rfl (by decide) kx_0 (by decide) (by decide) rfl rfl (by show (0 : Nat) ≤ 8; decide) ?_
    refine Run.mono h (fun r2 s3 h => ?_)
    refine R_eqs (st2 := [vI r2]) rfl rfl ?_
    exact R_ireturn e_X11_planted_0.2.2.2.2.2.2.2.2.2 rfl h
  · replace h := h.2 q
    refine R_iload_n e_X11_planted_0.2.2.2.1 1 rfl ?_
    refine R_bipush e_X11_planted_0.2.2.2.2.1 (by decide) ?_
    refine R_icmp_le 17 e_X11_planted_0.2.2.2.2.2.1 (by decide) q1 (by decide) (fun q => ?_) (fun q => ?_)
    · replace h := h.1 q
      refine R_aload_n e_X11_planted_1.1 0 rfl ?_
      refine R_getA 11 7 5 e_X11_planted_1.2.1 f_X11_43 kx_0 (fun _ _ => rfl) rx_0_7 (by decide) ?_
      refine R_callV (mc := 0) (ms := 0) (mc' := 0) (ms' := 0) (M' := M_X0_hasLand) (d' := 0) (as := []) (st := []) 0 0 e_X11_planted_1.2.2.1 (kCVof m_X0_hasLand l_X11_346) rfl (by decide) (kC_self isC_5) (by decide) (by decide) rfl rfl (by show (0 : Nat) ≤ 8; decide) ?_
      refine Run.mono h (fun r4 s5 h => ?_)
      refine R_eqs (st2 := [vI r4]) rfl rfl ?_
      obtain ⟨q6, h⟩ := h
      refine R_if_ne 34 e_X11_planted_1.2.2.2.1 (by decide) q6  (fun q => ?_) (fun q => ?_)
      · replace h := h.1 q
        refine R_aload_n e_X11_planted_1.2.2.2.2.2.2.2.2.1 0 rfl ?_
        refine R_getA 11 8 31 e_X11_planted_1.2.2.2.2.2.2.2.2.2 f_X11_47 kx_0 (fun _ _ => rfl) rx_0_8 (by decide) ?_
        refine R_aload_n e_X11_planted_2.1 0 rfl ?_
        refine R_getA 11 7 5 e_X11_planted_2.2.1 f_X11_43 kx_0 (fun _ _ => rfl) rx_0_7 (by decide) ?_
        refine R_callV (mc := 0) (ms := 0) (mc' := 0) (ms' := 0) (M' := M_X0_copy) (d' := 1) (as := [vA G 5]) (st := []) 0 1 e_X11_planted_2.2.2.1 (kCVof m_X0_copy l_X11_167) rfl (by decide) (kC_self isC_31) (by decide) (by decide) rfl rfl (by show (0 : Nat) ≤ 8; decide) ?_
        refine Run.mono h (fun r7 s8 h => ?_)
        refine R_eqs (st2 := []) rfl rfl ?_
        refine R_aload_n e_X11_planted_2.2.2.2.1 0 rfl ?_
        refine R_getA 11 15 82 e_X11_planted_2.2.2.2.2.1 f_X11_93 kx_0 (fun _ _ => rfl) rx_0_15 (by decide) ?_
        refine R_iload_n e_X11_planted_2.2.2.2.2.2.1 1 rfl ?_
        refine R_callV (mc := 0) (ms := 0) (mc' := 0) (ms' := 0) (M' := M_X5_seekPlanting) (d' := 4) (as := [vI l1]) (st := []) 5 1 e_X11_planted_2.2.2.2.2.2.2.1 (kCVof m_X5_seekPlanting l_X11_381) rfl (by decide) kx_82 (by decide) (by decide) rfl rfl (by show (0 : Nat) ≤ 8; decide) ?_
        refine Run.mono h (fun r9 s10 h => ?_)
        refine R_eqs (st2 := []) rfl rfl ?_
        refine R_aload_n e_X11_planted_2.2.2.2.2.2.2.2.1 0 rfl ?_
        refine R_aload_n e_X11_planted_2.2.2.2.2.2.2.2.2.1 0 rfl ?_
        refine R_getA 11 15 82 e_X11_planted_2.2.2.2.2.2.2.2.2.2 f_X11_93 kx_0 (fun _ _ => rfl) rx_0_15 (by decide) ?_
        refine R_getI 5 3 3 e_X11_planted_3.1 f_X11_387 kx_82 (fun _ _ => rfl) rfl ?_
        refine R_callV (mc := 0) (ms := 0) (mc' := 0) (ms' := 0) (M' := M_X11_give) (d' := 0) (as := [vI (s10 82 3)]) (st := []) 11 1 e_X11_planted_3.2.1 (kCVof m_X11_give l_X11_176) rfl (by decide) kx_0 (by decide) (by decide) rfl rfl (by show (0 : Nat) ≤ 8; decide) ?_
        refine Run.mono h (fun r11 s12 h => ?_)
        refine R_eqs (st2 := [vI r11]) rfl rfl ?_
        exact R_ireturn e_X11_planted_3.2.2 rfl h
      · replace h := h.2 q
        refine R_aload_n e_X11_planted_1.2.2.2.2.1 0 rfl ?_
        refine R_bipush e_X11_planted_1.2.2.2.2.2.1 (by decide) ?_
        refine R_callV (mc := 0) (ms := 0) (mc' := 0) (ms' := 0) (M' := M_X11_deny) (d' := 0) (as := [vI 6]) (st := []) 11 1 e_X11_planted_1.2.2.2.2.2.2.1 (kCVof m_X11_deny l_X11_132) rfl (by decide) kx_0 (by decide) (by decide) rfl rfl (by show (0 : Nat) ≤ 8; decide) ?_
        refine Run.mono h (fun r13 s14 h => ?_)
        refine R_eqs (st2 := [vI r13]) rfl rfl ?_
        exact R_ireturn e_X11_planted_1.2.2.2.2.2.2.2.1 rfl h
    · replace h := h.2 q
      refine R_aload_n e_X11_planted_0.2.2.2.2.2.2.1 0 rfl ?_
      refine R_iconst e_X11_planted_0.2.2.2.2.2.2.2.1 ?_
      refine R_callV (mc := 0) (ms := 0) (mc' := 0) (ms' := 0) (M' := M_X11_deny) (d' := 0) (as := [vI 1]) (st := []) 11 1 e_X11_planted_0.2.2.2.2.2.2.2.2.1 (kCVof m_X11_deny l_X11_132) rfl (by decide) kx_0 (by decide) (by decide) rfl rfl (by show (0 : Nat) ≤ 8; decide) ?_
      refine Run.mono h (fun r15 s16 h => ?_)
      refine R_eqs (st2 := [vI r15]) rfl rfl ?_
      exact R_ireturn e_X11_planted_0.2.2.2.2.2.2.2.2.2 rfl h
/-! KiteLand.purseIn(II)I -/
theorem e_X11_purseIn_0 : decode cX11_purseIn 0 = .ok (.aload_n 0, 1) ∧ decode cX11_purseIn 1 = .ok (.getfield 43, 3) ∧ decode cX11_purseIn 4 = .ok (.iload_n 1, 1) ∧ decode cX11_purseIn 5 = .ok (.invokevirtual 238, 3) ∧ decode cX11_purseIn 8 = .ok (.ifCond .eq 11, 3) ∧ decode cX11_purseIn 11 = .ok (.aload_n 0, 1) ∧ decode cX11_purseIn 12 = .ok (.iload_n 2, 1) ∧ decode cX11_purseIn 13 = .ok (.invokevirtual 378, 3) ∧ decode cX11_purseIn 16 = .ok (.ifCond .ne 9, 3) ∧ decode cX11_purseIn 19 = .ok (.aload_n 0, 1) := by decide +kernel
theorem e_X11_purseIn_1 : decode cX11_purseIn 20 = .ok (.iconst 1, 1) ∧ decode cX11_purseIn 21 = .ok (.invokevirtual 132, 3) ∧ decode cX11_purseIn 24 = .ok (.ireturn, 1) ∧ decode cX11_purseIn 25 = .ok (.aload_n 0, 1) ∧ decode cX11_purseIn 26 = .ok (.iload_n 2, 1) ∧ decode cX11_purseIn 27 = .ok (.invokevirtual 390, 3) ∧ decode cX11_purseIn 30 = .ok (.aload_n 0, 1) ∧ decode cX11_purseIn 31 = .ok (.aload_n 0, 1) ∧ decode cX11_purseIn 32 = .ok (.getfield 47, 3) ∧ decode cX11_purseIn 35 = .ok (.getfield 241, 3) := by decide +kernel
theorem e_X11_purseIn_2 : decode cX11_purseIn 38 = .ok (.iload_n 1, 1) ∧ decode cX11_purseIn 39 = .ok (.aaload, 1) ∧ decode cX11_purseIn 40 = .ok (.getfield 262, 3) ∧ decode cX11_purseIn 43 = .ok (.invokevirtual 176, 3) ∧ decode cX11_purseIn 46 = .ok (.ireturn, 1) := by decide +kernel
theorem S_X11_purseIn {G : Kg} {σ : Kmem} {Q : Int → Kmem → Prop} {l1 l2 : Int}  (h : Run G WX M_X0_hasKite 0 0 0 [vA G 5, vI l1] σ (fun r1 s2 => (rI r1) ∧ ((r1 = 0 → Run G WX M_X11_deny 0 0 0 [vA G 0, vI 1] s2 (fun r4 s5 => Q r4 s5)) ∧ (r1 ≠ 0 → Run G WX M_X11_isAhead 0 0 0 [vA G 0, vI l2] s2 (fun r6 s7 => (rI r6) ∧ ((r6 ≠ 0 → Run G WX M_X11_goAhead 5 0 0 [vA G 0, vI l2] s7 (fun r9 s10 => (0 ≤ l1 ∧ l1 < 6) ∧ Run G WX M_X11_give 0 0 0 [vA G 0, vI (s10 (31 + 6 + l1) 7)] s10 (fun r12 s13 => Q r12 s13))) ∧ (r6 = 0 → Run G WX M_X11_deny 0 0 0 [vA G 0, vI 1] s7 (fun r14 s15 => Q r14 s15)))))))) : Run G WX M_X11_purseIn 6 0 0 [vA G 0, vI l1, vI l2] σ Q := by
  refine Run.of (by decide +kernel) (by show (3 : Nat) ≤ 3; decide) ?_
  show Ex G WX M_X11_purseIn 6 0 0 0 [(0, vA G 0), (1, vI l1), (2, vI l2)] [] σ Q
  refine R_aload_n e_X11_purseIn_0.1 0 rfl ?_
  refine R_getA 11 7 5 e_X11_purseIn_0.2.1 f_X11_43 kx_0 (fun _ _ => rfl) rx_0_7 (by decide) ?_
  refine R_iload_n e_X11_purseIn_0.2.2.1 1 rfl ?_
  refine R_callV (mc := 0) (ms := 0) (mc' := 0) (ms' := 0) (M' := M_X0_hasKite) (d' := 0) (as := [vI l1]) (st := []) 0 1 e_X11_purseIn_0.2.2.2.1 (kCVof m_X0_hasKite l_X11_238) rfl (by decide) (kC_self isC_5) (by decide) (by decide) rfl rfl (by show (0 : Nat) ≤ 8; decide) ?_
  refine Run.mono h (fun r1 s2 h => ?_)
  refine R_eqs (st2 := [vI r1]) rfl rfl ?_
  obtain ⟨q3, h⟩ := h
  refine R_if_eq 19 e_X11_purseIn_0.2.2.2.2.1 (by decide) q3  (fun q => ?_) (fun q => ?_)
  · replace h := h.1 q
    refine R_aload_n e_X11_purseIn_0.2.2.2.2.2.2.2.2.2 0 rfl ?_
    refine R_iconst e_X11_purseIn_1.1 ?_
    refine R_callV (mc := 0) (ms := 0) (mc' := 0) (ms' := 0) (M' := M_X11_deny) (d' := 0) (as := [vI 1]) (st := []) 11 1 e_X11_purseIn_1.2.1 (kCVof m_X11_deny l_X11_132) rfl (by decide) kx_0 (by decide) (by decide) rfl rfl (by show (0 : Nat) ≤ 8; decide) ?_
    refine Run.mono h (fun r4 s5 h => ?_)
    refine R_eqs (st2 := [vI r4]) rfl rfl ?_
    exact R_ireturn e_X11_purseIn_1.2.2.1 rfl h
  · replace h := h.2 q
    refine R_aload_n e_X11_purseIn_0.2.2.2.2.2.1 0 rfl ?_
    refine R_iload_n e_X11_purseIn_0.2.2.2.2.2.2.1 2 rfl ?_
    refine R_callV (mc := 0) (ms := 0) (mc' := 0) (ms' := 0) (M' := M_X11_isAhead) (d' := 0) (as := [vI l2]) (st := []) 11 1 e_X11_purseIn_0.2.2.2.2.2.2.2.1 (kCVof m_X11_isAhead l_X11_378) rfl (by decide) kx_0 (by decide) (by decide) rfl rfl (by show (0 : Nat) ≤ 8; decide) ?_
    refine Run.mono h (fun r6 s7 h => ?_)
    refine R_eqs (st2 := [vI r6]) rfl rfl ?_
    obtain ⟨q8, h⟩ := h
    refine R_if_ne 25 e_X11_purseIn_0.2.2.2.2.2.2.2.2.1 (by decide) q8  (fun q => ?_) (fun q => ?_)
    · replace h := h.1 q
      refine R_aload_n e_X11_purseIn_1.2.2.2.1 0 rfl ?_
      refine R_iload_n e_X11_purseIn_1.2.2.2.2.1 2 rfl ?_
      refine R_callV (mc := 0) (ms := 0) (mc' := 0) (ms' := 0) (M' := M_X11_goAhead) (d' := 5) (as := [vI l2]) (st := []) 11 1 e_X11_purseIn_1.2.2.2.2.2.1 (kCVof m_X11_goAhead l_X11_390) rfl (by decide) kx_0 (by decide) (by decide) rfl rfl (by show (0 : Nat) ≤ 8; decide) ?_
      refine Run.mono h (fun r9 s10 h => ?_)
      refine R_eqs (st2 := []) rfl rfl ?_
      refine R_aload_n e_X11_purseIn_1.2.2.2.2.2.2.1 0 rfl ?_
      refine R_aload_n e_X11_purseIn_1.2.2.2.2.2.2.2.1 0 rfl ?_
      refine R_getA 11 8 31 e_X11_purseIn_1.2.2.2.2.2.2.2.2.1 f_X11_47 kx_0 (fun _ _ => rfl) rx_0_8 (by decide) ?_
      refine R_getA 0 10 (31 + 3) e_X11_purseIn_1.2.2.2.2.2.2.2.2.2 f_X11_241 (kC_self isC_31) (fun _ _ => rfl) (kC_r10 isC_31) (kC_n3 isC_31) ?_
      refine R_iload_n e_X11_purseIn_2.1 1 rfl ?_
      obtain ⟨q11, h⟩ := h
      refine R_aald 27 6 (31 + 6 + l1) e_X11_purseIn_2.2.1 (by decide) (kC_kites isC_31) q11 (kC_kiteAt isC_31 q11) (kC_kiteN isC_31 q11) ?_
      refine R_getI 3 7 7 e_X11_purseIn_2.2.2.1 f_X11_262 (kC_kite isC_31 q11) (fun _ _ => rfl) rfl ?_
      refine R_callV (mc := 0) (ms := 0) (mc' := 0) (ms' := 0) (M' := M_X11_give) (d' := 0) (as := [vI (s10 (31 + 6 + l1) 7)]) (st := []) 11 1 e_X11_purseIn_2.2.2.2.1 (kCVof m_X11_give l_X11_176) rfl (by decide) kx_0 (by decide) (by decide) rfl rfl (by show (0 : Nat) ≤ 8; decide) ?_
      refine Run.mono h (fun r12 s13 h => ?_)
      refine R_eqs (st2 := [vI r12]) rfl rfl ?_
      exact R_ireturn e_X11_purseIn_2.2.2.2.2 rfl h
    · replace h := h.2 q
      refine R_aload_n e_X11_purseIn_0.2.2.2.2.2.2.2.2.2 0 rfl ?_
      refine R_iconst e_X11_purseIn_1.1 ?_
      refine R_callV (mc := 0) (ms := 0) (mc' := 0) (ms' := 0) (M' := M_X11_deny) (d' := 0) (as := [vI 1]) (st := []) 11 1 e_X11_purseIn_1.2.1 (kCVof m_X11_deny l_X11_132) rfl (by decide) kx_0 (by decide) (by decide) rfl rfl (by show (0 : Nat) ≤ 8; decide) ?_
      refine Run.mono h (fun r14 s15 h => ?_)
      refine R_eqs (st2 := [vI r14]) rfl rfl ?_
      exact R_ireturn e_X11_purseIn_1.2.2.1 rfl h
/-! KiteLand.tenantIn(II)I -/
theorem e_X11_tenantIn_0 : decode cX11_tenantIn 0 = .ok (.aload_n 0, 1) ∧ decode cX11_tenantIn 1 = .ok (.getfield 43, 3) ∧ decode cX11_tenantIn 4 = .ok (.iload_n 1, 1) ∧ decode cX11_tenantIn 5 = .ok (.invokevirtual 288, 3) ∧ decode cX11_tenantIn 8 = .ok (.ifCond .eq 11, 3) ∧ decode cX11_tenantIn 11 = .ok (.aload_n 0, 1) ∧ decode cX11_tenantIn 12 = .ok (.iload_n 2, 1) ∧ decode cX11_tenantIn 13 = .ok (.invokevirtual 378, 3) ∧ decode cX11_tenantIn 16 = .ok (.ifCond .ne 9, 3) ∧ decode cX11_tenantIn 19 = .ok (.aload_n 0, 1) := by decide +kernel
theorem e_X11_tenantIn_1 : decode cX11_tenantIn 20 = .ok (.iconst 1, 1) ∧ decode cX11_tenantIn 21 = .ok (.invokevirtual 132, 3) ∧ decode cX11_tenantIn 24 = .ok (.ireturn, 1) ∧ decode cX11_tenantIn 25 = .ok (.aload_n 0, 1) ∧ decode cX11_tenantIn 26 = .ok (.iload_n 2, 1) ∧ decode cX11_tenantIn 27 = .ok (.invokevirtual 390, 3) ∧ decode cX11_tenantIn 30 = .ok (.aload_n 0, 1) ∧ decode cX11_tenantIn 31 = .ok (.aload_n 0, 1) ∧ decode cX11_tenantIn 32 = .ok (.aload_n 0, 1) ∧ decode cX11_tenantIn 33 = .ok (.getfield 47, 3) := by decide +kernel
theorem e_X11_tenantIn_2 : decode cX11_tenantIn 36 = .ok (.getfield 291, 3) ∧ decode cX11_tenantIn 39 = .ok (.iload_n 1, 1) ∧ decode cX11_tenantIn 40 = .ok (.aaload, 1) ∧ decode cX11_tenantIn 41 = .ok (.getfield 295, 3) ∧ decode cX11_tenantIn 44 = .ok (.aload_n 0, 1) ∧ decode cX11_tenantIn 45 = .ok (.getfield 47, 3) ∧ decode cX11_tenantIn 48 = .ok (.getfield 291, 3) ∧ decode cX11_tenantIn 51 = .ok (.iload_n 1, 1) ∧ decode cX11_tenantIn 52 = .ok (.aaload, 1) ∧ decode cX11_tenantIn 53 = .ok (.getfield 298, 3) := by decide +kernel
theorem e_X11_tenantIn_3 : decode cX11_tenantIn 56 = .ok (.invokevirtual 359, 3) ∧ decode cX11_tenantIn 59 = .ok (.invokevirtual 176, 3) ∧ decode cX11_tenantIn 62 = .ok (.ireturn, 1) := by decide +kernel
theorem S_X11_tenantIn {G : Kg} {σ : Kmem} {Q : Int → Kmem → Prop} {l1 l2 : Int}  (h : Run G WX M_X0_hasTenant 0 0 0 [vA G 5, vI l1] σ (fun r1 s2 => (rI r1) ∧ ((r1 = 0 → Run G WX M_X11_deny 0 0 0 [vA G 0, vI 1] s2 (fun r4 s5 => Q r4 s5)) ∧ (r1 ≠ 0 → Run G WX M_X11_isAhead 0 0 0 [vA G 0, vI l2] s2 (fun r6 s7 => (rI r6) ∧ ((r6 ≠ 0 → Run G WX M_X11_goAhead 5 0 0 [vA G 0, vI l2] s7 (fun r9 s10 => (0 ≤ l1 ∧ l1 < 6) ∧ (0 ≤ l1 ∧ l1 < 6) ∧ Run G WX M_X11_fieldNumber 0 0 0 [vA G 0, vI (s10 (31 + 20 + l1) 1), vI (s10 (31 + 20 + l1) 2)] s10 (fun r13 s14 => Run G WX M_X11_give 0 0 0 [vA G 0, vI r13] s14 (fun r15 s16 => Q r15 s16)))) ∧ (r6 = 0 → Run G WX M_X11_deny 0 0 0 [vA G 0, vI 1] s7 (fun r17 s18 => Q r17 s18)))))))) : Run G WX M_X11_tenantIn 6 0 0 [vA G 0, vI l1, vI l2] σ Q := by
  refine Run.of (by decide +kernel) (by show (3 : Nat) ≤ 3; decide) ?_
  show Ex G WX M_X11_tenantIn 6 0 0 0 [(0, vA G 0), (1, vI l1), (2, vI l2)] [] σ Q
  refine R_aload_n e_X11_tenantIn_0.1 0 rfl ?_
  refine R_getA 11 7 5 e_X11_tenantIn_0.2.1 f_X11_43 kx_0 (fun _ _ => rfl) rx_0_7 (by decide) ?_
  refine R_iload_n e_X11_tenantIn_0.2.2.1 1 rfl ?_
  refine R_callV (mc := 0) (ms := 0) (mc' := 0) (ms' := 0) (M' := M_X0_hasTenant) (d' := 0) (as := [vI l1]) (st := []) 0 1 e_X11_tenantIn_0.2.2.2.1 (kCVof m_X0_hasTenant l_X11_288) rfl (by decide) (kC_self isC_5) (by decide) (by decide) rfl rfl (by show (0 : Nat) ≤ 8; decide) ?_
  refine Run.mono h (fun r1 s2 h => ?_)
  refine R_eqs (st2 := [vI r1]) rfl rfl ?_
  obtain ⟨q3, h⟩ := h
  refine R_if_eq 19 e_X11_tenantIn_0.2.2.2.2.1 (by decide) q3  (fun q => ?_) (fun q => ?_)
  · replace h := h.1 q
    refine R_aload_n e_X11_tenantIn_0.2.2.2.2.2.2.2.2.2 0 rfl ?_
    refine R_iconst e_X11_tenantIn_1.1 ?_
    refine R_callV (mc := 0) (ms := 0) (mc' := 0) (ms' := 0) (M' := M_X11_deny) (d' := 0) (as := [vI 1]) (st := []) 11 1 e_X11_tenantIn_1.2.1 (kCVof m_X11_deny l_X11_132) rfl (by decide) kx_0 (by decide) (by decide) rfl rfl (by show (0 : Nat) ≤ 8; decide) ?_
    refine Run.mono h (fun r4 s5 h => ?_)
    refine R_eqs (st2 := [vI r4]) rfl rfl ?_
    exact R_ireturn e_X11_tenantIn_1.2.2.1 rfl h
  · replace h := h.2 q
    refine R_aload_n e_X11_tenantIn_0.2.2.2.2.2.1 0 rfl ?_
    refine R_iload_n e_X11_tenantIn_0.2.2.2.2.2.2.1 2 rfl ?_
    refine R_callV (mc := 0) (ms := 0) (mc' := 0) (ms' := 0) (M' := M_X11_isAhead) (d' := 0) (as := [vI l2]) (st := []) 11 1 e_X11_tenantIn_0.2.2.2.2.2.2.2.1 (kCVof m_X11_isAhead l_X11_378) rfl (by decide) kx_0 (by decide) (by decide) rfl rfl (by show (0 : Nat) ≤ 8; decide) ?_
    refine Run.mono h (fun r6 s7 h => ?_)
    refine R_eqs (st2 := [vI r6]) rfl rfl ?_
    obtain ⟨q8, h⟩ := h
    refine R_if_ne 25 e_X11_tenantIn_0.2.2.2.2.2.2.2.2.1 (by decide) q8  (fun q => ?_) (fun q => ?_)
    · replace h := h.1 q
      refine R_aload_n e_X11_tenantIn_1.2.2.2.1 0 rfl ?_
      refine R_iload_n e_X11_tenantIn_1.2.2.2.2.1 2 rfl ?_
      refine R_callV (mc := 0) (ms := 0) (mc' := 0) (ms' := 0) (M' := M_X11_goAhead) (d' := 5) (as := [vI l2]) (st := []) 11 1 e_X11_tenantIn_1.2.2.2.2.2.1 (kCVof m_X11_goAhead l_X11_390) rfl (by decide) kx_0 (by decide) (by decide) rfl rfl (by show (0 : Nat) ≤ 8; decide) ?_
      refine Run.mono h (fun r9 s10 h => ?_)
      refine R_eqs (st2 := []) rfl rfl ?_
      refine R_aload_n e_X11_tenantIn_1.2.2.2.2.2.2.1 0 rfl ?_
      refine R_aload_n e_X11_tenantIn_1.2.2.2.2.2.2.2.1 0 rfl ?_
      refine R_aload_n e_X11_tenantIn_1.2.2.2.2.2.2.2.2.1 0 rfl ?_
      refine R_getA 11 8 31 e_X11_tenantIn_1.2.2.2.2.2.2.2.2.2 f_X11_47 kx_0 (fun _ _ => rfl) rx_0_8 (by decide) ?_
      refine R_getA 0 12 (31 + 5) e_X11_tenantIn_2.1 f_X11_291 (kC_self isC_31) (fun _ _ => rfl) (kC_r12 isC_31) (kC_n5 isC_31) ?_
      refine R_iload_n e_X11_tenantIn_2.2.1 1 rfl ?_
      obtain ⟨q11, h⟩ := h
      refine R_aald 29 6 (31 + 20 + l1) e_X11_tenantIn_2.2.2.1 (by decide) (kC_tens isC_31) q11 (kC_tenAt isC_31 q11) (kC_tenN isC_31 q11) ?_
      refine R_getI 9 1 1 e_X11_tenantIn_2.2.2.2.1 f_X11_295 (kC_ten isC_31 q11) (fun _ _ => rfl) rfl ?_
      refine R_aload_n e_X11_tenantIn_2.2.2.2.2.1 0 rfl ?_
      refine R_getA 11 8 31 e_X11_tenantIn_2.2.2.2.2.2.1 f_X11_47 kx_0 (fun _ _ => rfl) rx_0_8 (by decide) ?_
      refine R_getA 0 12 (31 + 5) e_X11_tenantIn_2.2.2.2.2.2.2.1 f_X11_291 (kC_self isC_31) (fun _ _ => rfl) (kC_r12 isC_31) (kC_n5 isC_31) ?_
      refine R_iload_n e_X11_tenantIn_2.2.2.2.2.2.2.2.1 1 rfl ?_
      obtain ⟨q12, h⟩ := h
      refine R_aald 29 6 (31 + 20 + l1) e_X11_tenantIn_2.2.2.2.2.2.2.2.2.1 (by decide) (kC_tens isC_31) q12 (kC_tenAt isC_31 q12) (kC_tenN isC_31 q12) ?_
      refine R_getI 9 2 2 e_X11_tenantIn_2.2.2.2.2.2.2.2.2.2 f_X11_298 (kC_ten isC_31 q12) (fun _ _ => rfl) rfl ?_
      refine R_callV (mc := 0) (ms := 0) (mc' := 0) (ms' := 0) (M' := M_X11_fieldNumber) (d' := 0) (as := [vI (s10 (31 + 20 + l1) 1), vI (s10 (31 + 20 + l1) 2)]) (st := [vA G 0]) 11 2 e_X11_tenantIn_3.1 (kCVof m_X11_fieldNumber l_X11_359) rfl (by decide) kx_0 (by decide) (by decide) rfl rfl (by show (1 : Nat) ≤ 8; decide) ?_
      refine Run.mono h (fun r13 s14 h => ?_)
      refine R_eqs (st2 := [vI r13, vA G 0]) rfl rfl ?_
      refine R_callV (mc := 0) (ms := 0) (mc' := 0) (ms' := 0) (M' := M_X11_give) (d' := 0) (as := [vI r13]) (st := []) 11 1 e_X11_tenantIn_3.2.1 (kCVof m_X11_give l_X11_176) rfl (by decide) kx_0 (by decide) (by decide) rfl rfl (by show (0 : Nat) ≤ 8; decide) ?_
      refine Run.mono h (fun r15 s16 h => ?_)
      refine R_eqs (st2 := [vI r15]) rfl rfl ?_
      exact R_ireturn e_X11_tenantIn_3.2.2 rfl h
    · replace h := h.2 q
      refine R_aload_n e_X11_tenantIn_0.2.2.2.2.2.2.2.2.2 0 rfl ?_
      refine R_iconst e_X11_tenantIn_1.1 ?_
      refine R_callV (mc := 0) (ms := 0) (mc' := 0) (ms' := 0) (M' := M_X11_deny) (d' := 0) (as := [vI 1]) (st := []) 11 1 e_X11_tenantIn_1.2.1 (kCVof m_X11_deny l_X11_132) rfl (by decide) kx_0 (by decide) (by decide) rfl rfl (by show (0 : Nat) ≤ 8; decide) ?_
      refine Run.mono h (fun r17 s18 h => ?_)
      refine R_eqs (st2 := [vI r17]) rfl rfl ?_
      exact R_ireturn e_X11_tenantIn_1.2.2.1 rfl h
/-! KiteLand.cutIn(I)I -/
theorem e_X11_cutIn_0 : decode cX11_cutIn 0 = .ok (.aload_n 0, 1) ∧ decode cX11_cutIn 1 = .ok (.getfield 43, 3) ∧ decode cX11_cutIn 4 = .ok (.iload_n 1, 1) ∧ decode cX11_cutIn 5 = .ok (.invokevirtual 238, 3) ∧ decode cX11_cutIn 8 = .ok (.ifCond .ne 9, 3) ∧ decode cX11_cutIn 11 = .ok (.aload_n 0, 1) ∧ decode cX11_cutIn 12 = .ok (.iconst 1, 1) ∧ decode cX11_cutIn 13 = .ok (.invokevirtual 132, 3) ∧ decode cX11_cutIn 16 = .ok (.ireturn, 1) ∧ decode cX11_cutIn 17 = .ok (.aload_n 0, 1) := by decide +kernel
theorem e_X11_cutIn_1 : decode cX11_cutIn 18 = .ok (.getfield 47, 3) ∧ decode cX11_cutIn 21 = .ok (.aload_n 0, 1) ∧ decode cX11_cutIn 22 = .ok (.getfield 43, 3) ∧ decode cX11_cutIn 25 = .ok (.invokevirtual 167, 3) ∧ decode cX11_cutIn 28 = .ok (.iconst 0, 1) ∧ decode cX11_cutIn 29 = .ok (.istore_n 2, 1) ∧ decode cX11_cutIn 30 = .ok (.iload_n 2, 1) ∧ decode cX11_cutIn 31 = .ok (.bipush 99, 2) ∧ decode cX11_cutIn 33 = .ok (.if_icmp .gt 55, 3) ∧ decode cX11_cutIn 36 = .ok (.aload_n 0, 1) := by decide +kernel
theorem e_X11_cutIn_2 : decode cX11_cutIn 37 = .ok (.getfield 47, 3) ∧ decode cX11_cutIn 40 = .ok (.getfield 241, 3) ∧ decode cX11_cutIn 43 = .ok (.iload_n 1, 1) ∧ decode cX11_cutIn 44 = .ok (.aaload, 1) ∧ decode cX11_cutIn 45 = .ok (.getfield 362, 3) ∧ decode cX11_cutIn 48 = .ok (.ifCond .eq 9, 3) ∧ decode cX11_cutIn 51 = .ok (.aload_n 0, 1) ∧ decode cX11_cutIn 52 = .ok (.iload_n 2, 1) ∧ decode cX11_cutIn 53 = .ok (.invokevirtual 176, 3) ∧ decode cX11_cutIn 56 = .ok (.ireturn, 1) := by decide +kernel
theorem e_X11_cutIn_3 : decode cX11_cutIn 57 = .ok (.aload_n 0, 1) ∧ decode cX11_cutIn 58 = .ok (.getfield 47, 3) ∧ decode cX11_cutIn 61 = .ok (.aload_n 0, 1) ∧ decode cX11_cutIn 62 = .ok (.getfield 64, 3) ∧ decode cX11_cutIn 65 = .ok (.invokevirtual 371, 3) ∧ decode cX11_cutIn 68 = .ok (.pop, 1) ∧ decode cX11_cutIn 69 = .ok (.aload_n 0, 1) ∧ decode cX11_cutIn 70 = .ok (.getfield 47, 3) ∧ decode cX11_cutIn 73 = .ok (.dup, 1) ∧ decode cX11_cutIn 74 = .ok (.getfield 212, 3) := by decide +kernel
theorem e_X11_cutIn_4 : decode cX11_cutIn 77 = .ok (.iconst 1, 1) ∧ decode cX11_cutIn 78 = .ok (.iadd, 1) ∧ decode cX11_cutIn 79 = .ok (.putfield 212, 3) ∧ decode cX11_cutIn 82 = .ok (.iinc 2 1, 3) ∧ decode cX11_cutIn 85 = .ok (.goto (-55), 3) ∧ decode cX11_cutIn 88 = .ok (.aload_n 0, 1) ∧ decode cX11_cutIn 89 = .ok (.bipush 6, 2) ∧ decode cX11_cutIn 91 = .ok (.invokevirtual 132, 3) ∧ decode cX11_cutIn 94 = .ok (.ireturn, 1) := by decide +kernel
abbrev E_X11_cutIn_30 (G : Kg) (l1 l2 : Int) (σ : Kmem) (Q : Int → Kmem → Prop) : Prop := Ex G WX M_X11_cutIn 4 0 0 30 [(0, vA G 0), (1, vI l1), (2, vI l2)] [] σ Q
theorem S_X11_cutIn {G : Kg} {σ : Kmem} {Q : Int → Kmem → Prop} {l1 : Int}  (h : Run G WX M_X0_hasKite 0 0 0 [vA G 5, vI l1] σ (fun r1 s2 => (rI r1) ∧ ((r1 ≠ 0 → Run G WX M_X0_copy 1 0 0 [vA G 31, vA G 5] s2 (fun r4 s5 => E_X11_cutIn_30 G l1 0 s5 Q)) ∧ (r1 = 0 → Run G WX M_X11_deny 0 0 0 [vA G 0, vI 1] s2 (fun r6 s7 => Q r6 s7))))) : Run G WX M_X11_cutIn 4 0 0 [vA G 0, vI l1] σ Q := by
  refine Run.of (by decide +kernel) (by show (2 : Nat) ≤ 3; decide) ?_
  show Ex G WX M_X11_cutIn 4 0 0 0 [(0, vA G 0), (1, vI l1)] [] σ Q
  refine R_aload_n e_X11_cutIn_0.1 0 rfl ?_
  refine R_getA 11 7 5 e_X11_cutIn_0.2.1 f_X11_43 kx_0 (fun _ _ => rfl) rx_0_7 (by decide) ?_
  refine R_iload_n e_X11_cutIn_0.2.2.1 1 rfl ?_
  refine R_callV (mc := 0) (ms := 0) (mc' := 0) (ms' := 0) (M' := M_X0_hasKite) (d' := 0) (as := [vI l1]) (st := []) 0 1 e_X11_cutIn_0.2.2.2.1 (kCVof m_X0_hasKite l_X11_238) rfl (by decide) (kC_self isC_5) (by decide) (by decide) rfl rfl (by show (0 : Nat) ≤ 8; decide) ?_
  refine Run.mono h (fun r1 s2 h => ?_)
  refine R_eqs (st2 := [vI r1]) rfl rfl ?_
  obtain ⟨q3, h⟩ := h
  refine R_if_ne 17 e_X11_cutIn_0.2.2.2.2.1 (by decide) q3  (fun q => ?_) (fun q => ?_)
  · replace h := h.1 q
    refine R_aload_n e_X11_cutIn_0.2.2.2.2.2.2.2.2.2 0 rfl ?_
    refine R_getA 11 8 31 e_X11_cutIn_1.1 f_X11_47 kx_0 (fun _ _ => rfl) rx_0_8 (by decide) ?_
    refine R_aload_n e_X11_cutIn_1.2.1 0 rfl ?_
    refine R_getA 11 7 5 e_X11_cutIn_1.2.2.1 f_X11_43 kx_0 (fun _ _ => rfl) rx_0_7 (by decide) ?_
    refine R_callV (mc := 0) (ms := 0) (mc' := 0) (ms' := 0) (M' := M_X0_copy) (d' := 1) (as := [vA G 5]) (st := []) 0 1 e_X11_cutIn_1.2.2.2.1 (kCVof m_X0_copy l_X11_167) rfl (by decide) (kC_self isC_31) (by decide) (by decide) rfl rfl (by show (0 : Nat) ≤ 8; decide) ?_
    refine Run.mono h (fun r4 s5 h => ?_)
    refine R_eqs (st2 := []) rfl rfl ?_
    refine R_iconst e_X11_cutIn_1.2.2.2.2.1 ?_
    refine R_istore_n (ls2 := [(2, vI 0), (0, vA G 0), (1, vI l1)]) e_X11_cutIn_1.2.2.2.2.2.1 (by decide) rfl ?_
    refine R_ls (ls2 := [(0, vA G 0), (1, vI l1), (2, vI 0)]) [1, 2, 0] rfl ?_
    exact h
  · replace h := h.2 q
    refine R_aload_n e_X11_cutIn_0.2.2.2.2.2.1 0 rfl ?_
    refine R_iconst e_X11_cutIn_0.2.2.2.2.2.2.1 ?_
    refine R_callV (mc := 0) (ms := 0) (mc' := 0) (ms' := 0) (M' := M_X11_deny) (d' := 0) (as := [vI 1]) (st := []) 11 1 e_X11_cutIn_0.2.2.2.2.2.2.2.1 (kCVof m_X11_deny l_X11_132) rfl (by decide) kx_0 (by decide) (by decide) rfl rfl (by show (0 : Nat) ≤ 8; decide) ?_
    refine Run.mono h (fun r6 s7 h => ?_)
    refine R_eqs (st2 := [vI r6]) rfl rfl ?_
    exact R_ireturn e_X11_cutIn_0.2.2.2.2.2.2.2.2.1 rfl h
theorem S_X11_cutIn_30 {G : Kg} {σ : Kmem} {Q : Int → Kmem → Prop} {l1 l2 : Int}  (h : (rI l2) ∧ ((99 < l2 → Run G WX M_X11_deny 0 0 0 [vA G 0, vI 6] σ (fun r9 s10 => Q r9 s10)) ∧ (l2 ≤ 99 → (0 ≤ l1 ∧ l1 < 6) ∧ (rI (σ (31 + 6 + l1) 9)) ∧ ((σ (31 + 6 + l1) 9 = 0 → Run G WX M_X0_loseCrossed 3 0 0 [vA G 31, vA G 58] σ (fun r13 s14 => E_X11_cutIn_30 G l1 (l2 + 1) (kup s14 31 4 ((s14 31 4) + 1)) Q)) ∧ (σ (31 + 6 + l1) 9 ≠ 0 → Run G WX M_X11_give 0 0 0 [vA G 0, vI l2] σ (fun r15 s16 => Q r15 s16)))))) : E_X11_cutIn_30 G l1 l2 σ Q := by
  refine R_iload_n e_X11_cutIn_1.2.2.2.2.2.2.1 2 rfl ?_
  refine R_bipush e_X11_cutIn_1.2.2.2.2.2.2.2.1 (by decide) ?_
  obtain ⟨q8, h⟩ := h
  refine R_icmp_gt 88 e_X11_cutIn_1.2.2.2.2.2.2.2.2.1 (by decide) q8 (by decide) (fun q => ?_) (fun q => ?_)
  · replace h := h.1 q
    refine R_aload_n e_X11_cutIn_4.2.2.2.2.2.1 0 rfl ?_
    refine R_bipush e_X11_cutIn_4.2.2.2.2.2.2.1 (by decide) ?_
    refine R_callV (mc := 0) (ms := 0) (mc' := 0) (ms' := 0) (M' := M_X11_deny) (d' := 0) (as := [vI 6]) (st := []) 11 1 e_X11_cutIn_4.2.2.2.2.2.2.2.1 (kCVof m_X11_deny l_X11_132) rfl (by decide) kx_0 (by decide) (by decide) rfl rfl (by show (0 : Nat) ≤ 8; decide) ?_
    refine Run.mono h (fun r9 s10 h => ?_)
    refine R_eqs (st2 := [vI r9]) rfl rfl ?_
    exact R_ireturn e_X11_cutIn_4.2.2.2.2.2.2.2.2 rfl h
  · replace h := h.2 q
    refine R_aload_n e_X11_cutIn_1.2.2.2.2.2.2.2.2.2 0 rfl ?_
    refine R_getA 11 8 31 e_X11_cutIn_2.1 f_X11_47 kx_0 (fun _ _ => rfl) rx_0_8 (by decide) ?_
    refine R_getA 0 10 (31 + 3) e_X11_cutIn_2.2.1 f_X11_241 (kC_self isC_31) (fun _ _ => rfl) (kC_r10 isC_31) (kC_n3 isC_31) ?_
    refine R_iload_n e_X11_cutIn_2.2.2.1 1 rfl ?_
    obtain ⟨q11, h⟩ := h
    refine R_aald 27 6 (31 + 6 + l1) e_X11_cutIn_2.2.2.2.1 (by decide) (kC_kites isC_31) q11 (kC_kiteAt isC_31 q11) (kC_kiteN isC_31 q11) ?_
    refine R_getI 3 9 9 e_X11_cutIn_2.2.2.2.2.1 f_X11_362 (kC_kite isC_31 q11) (fun _ _ => rfl) rfl ?_
    obtain ⟨q12, h⟩ := h
    refine R_if_eq 57 e_X11_cutIn_2.2.2.2.2.2.1 (by decide) q12  (fun q => ?_) (fun q => ?_)
    · replace h := h.1 q
      refine R_aload_n e_X11_cutIn_3.1 0 rfl ?_
      refine R_getA 11 8 31 e_X11_cutIn_3.2.1 f_X11_47 kx_0 (fun _ _ => rfl) rx_0_8 (by decide) ?_
      refine R_aload_n e_X11_cutIn_3.2.2.1 0 rfl ?_
      refine R_getA 11 10 58 e_X11_cutIn_3.2.2.2.1 f_X11_64 kx_0 (fun _ _ => rfl) rx_0_10 (by decide) ?_
      refine R_callV (mc := 0) (ms := 0) (mc' := 0) (ms' := 0) (M' := M_X0_loseCrossed) (d' := 3) (as := [vA G 58]) (st := []) 0 1 e_X11_cutIn_3.2.2.2.2.1 (kCVof m_X0_loseCrossed l_X11_371) rfl (by decide) (kC_self isC_31) (by decide) (by decide) rfl rfl (by show (0 : Nat) ≤ 8; decide) ?_
      refine Run.mono h (fun r13 s14 h => ?_)
      refine R_eqs (st2 := [vI r13]) rfl rfl ?_
      refine R_pop e_X11_cutIn_3.2.2.2.2.2.1 rfl ?_
      refine R_aload_n e_X11_cutIn_3.2.2.2.2.2.2.1 0 rfl ?_
      refine R_getA 11 8 31 e_X11_cutIn_3.2.2.2.2.2.2.2.1 f_X11_47 kx_0 (fun _ _ => rfl) rx_0_8 (by decide) ?_
      refine R_dup e_X11_cutIn_3.2.2.2.2.2.2.2.2.1 rfl ?_
      refine R_getI 0 4 4 e_X11_cutIn_3.2.2.2.2.2.2.2.2.2 f_X11_212 (kC_self isC_31) (fun _ _ => rfl) rfl ?_
      refine R_iconst e_X11_cutIn_4.1 ?_
      refine R_iadd e_X11_cutIn_4.2.1 ?_
      refine R_putI 0 4 4 WX_ok e_X11_cutIn_4.2.2.1 f_X11_212 (kC_self isC_31) rfl rfl rfl ?_
      refine R_iinc (ls2 := [(2, vI (l2 + 1)), (0, vA G 0), (1, vI l1)]) e_X11_cutIn_4.2.2.2.1 2 rfl (by decide) rfl ?_
      refine R_goto 30 e_X11_cutIn_4.2.2.2.2.1 (by decide) ?_
      refine R_ls (ls2 := [(0, vA G 0), (1, vI l1), (2, vI (l2 + 1))]) [1, 2, 0] rfl ?_
      exact h
    · replace h := h.2 q
      refine R_aload_n e_X11_cutIn_2.2.2.2.2.2.2.1 0 rfl ?_
      refine R_iload_n e_X11_cutIn_2.2.2.2.2.2.2.2.1 2 rfl ?_
      refine R_callV (mc := 0) (ms := 0) (mc' := 0) (ms' := 0) (M' := M_X11_give) (d' := 0) (as := [vI l2]) (st := []) 11 1 e_X11_cutIn_2.2.2.2.2.2.2.2.2.1 (kCVof m_X11_give l_X11_176) rfl (by decide) kx_0 (by decide) (by decide) rfl rfl (by show (0 : Nat) ≤ 8; decide) ?_
      refine Run.mono h (fun r15 s16 h => ?_)
      refine R_eqs (st2 := [vI r15]) rfl rfl ?_
      exact R_ireturn e_X11_cutIn_2.2.2.2.2.2.2.2.2.2 rfl h
/-! KiteLand.fly(IIII)I -/
theorem e_X11_fly_0 : decode cX11_fly 0 = .ok (.aload_n 0, 1) ∧ decode cX11_fly 1 = .ok (.getfield 43, 3) ∧ decode cX11_fly 4 = .ok (.iload_n 1, 1) ∧ decode cX11_fly 5 = .ok (.invokevirtual 238, 3) ∧ decode cX11_fly 8 = .ok (.ifCond .eq 27, 3) ∧ decode cX11_fly 11 = .ok (.aload_n 0, 1) ∧ decode cX11_fly 12 = .ok (.getfield 43, 3) ∧ decode cX11_fly 15 = .ok (.iload_n 2, 1) ∧ decode cX11_fly 16 = .ok (.iload_n 3, 1) ∧ decode cX11_fly 17 = .ok (.invokevirtual 321, 3) := by decide +kernel
theorem e_X11_fly_1 : decode cX11_fly 20 = .ok (.ifCond .eq 15, 3) ∧ decode cX11_fly 23 = .ok (.iload 4, 2) ∧ decode cX11_fly 25 = .ok (.iconst 1, 1) ∧ decode cX11_fly 26 = .ok (.if_icmp .lt 9, 3) ∧ decode cX11_fly 29 = .ok (.iload 4, 2) ∧ decode cX11_fly 31 = .ok (.iconst 5, 1) ∧ decode cX11_fly 32 = .ok (.if_icmp .le 9, 3) ∧ decode cX11_fly 35 = .ok (.aload_n 0, 1) ∧ decode cX11_fly 36 = .ok (.iconst 1, 1) ∧ decode cX11_fly 37 = .ok (.invokevirtual 132, 3) := by decide +kernel
theorem e_X11_fly_2 : decode cX11_fly 40 = .ok (.ireturn, 1) ∧ decode cX11_fly 41 = .ok (.aload_n 0, 1) ∧ decode cX11_fly 42 = .ok (.getfield 47, 3) ∧ decode cX11_fly 45 = .ok (.aload_n 0, 1) ∧ decode cX11_fly 46 = .ok (.getfield 43, 3) ∧ decode cX11_fly 49 = .ok (.invokevirtual 167, 3) ∧ decode cX11_fly 52 = .ok (.aload_n 0, 1) ∧ decode cX11_fly 53 = .ok (.getfield 93, 3) ∧ decode cX11_fly 56 = .ok (.iload_n 1, 1) ∧ decode cX11_fly 57 = .ok (.iload_n 2, 1) := by decide +kernel
theorem e_X11_fly_3 : decode cX11_fly 58 = .ok (.iload_n 3, 1) ∧ decode cX11_fly 59 = .ok (.iload 4, 2) ∧ decode cX11_fly 61 = .ok (.invokevirtual 393, 3) ∧ decode cX11_fly 64 = .ok (.aload_n 0, 1) ∧ decode cX11_fly 65 = .ok (.aload_n 0, 1) ∧ decode cX11_fly 66 = .ok (.getfield 93, 3) ∧ decode cX11_fly 69 = .ok (.getfield 397, 3) ∧ decode cX11_fly 72 = .ok (.invokevirtual 176, 3) ∧ decode cX11_fly 75 = .ok (.ireturn, 1) := by decide +kernel
theorem S_X11_fly {G : Kg} {σ : Kmem} {Q : Int → Kmem → Prop} {l1 l2 l3 l4 : Int}  (h : Run G WX M_X0_hasKite 0 0 0 [vA G 5, vI l1] σ (fun r1 s2 => (rI r1) ∧ ((r1 = 0 → Run G WX M_X11_deny 0 0 0 [vA G 0, vI 1] s2 (fun r4 s5 => Q r4 s5)) ∧ (r1 ≠ 0 → Run G WX M_X0_hasField 1 0 0 [vA G 5, vI l2, vI l3] s2 (fun r6 s7 => (rI r6) ∧ ((r6 = 0 → Run G WX M_X11_deny 0 0 0 [vA G 0, vI 1] s7 (fun r9 s10 => Q r9 s10)) ∧ (r6 ≠ 0 → (rI l4) ∧ ((l4 < 1 → Run G WX M_X11_deny 0 0 0 [vA G 0, vI 1] s7 (fun r12 s13 => Q r12 s13)) ∧ (1 ≤ l4 → ((l4 ≤ 5 → Run G WX M_X0_copy 1 0 0 [vA G 31, vA G 5] s7 (fun r14 s15 => Run G WX M_X5_seekFlight 21 0 0 [vA G 82, vI l1, vI l2, vI l3, vI l4] s15 (fun r16 s17 => Run G WX M_X11_give 0 0 0 [vA G 0, vI (s17 82 7)] s17 (fun r18 s19 => Q r18 s19)))) ∧ (5 < l4 → Run G WX M_X11_deny 0 0 0 [vA G 0, vI 1] s7 (fun r20 s21 => Q r20 s21)))))))))))) : Run G WX M_X11_fly 22 0 0 [vA G 0, vI l1, vI l2, vI l3, vI l4] σ Q := by
  refine Run.of (by decide +kernel) (by show (5 : Nat) ≤ 5; decide) ?_
  show Ex G WX M_X11_fly 22 0 0 0 [(0, vA G 0), (1, vI l1), (2, vI l2), (3, vI l3), (4, vI l4)] [] σ Q
  refine R_aload_n e_X11_fly_0.1 0 rfl ?_
  refine R_getA 11 7 5 e_X11_fly_0.2.1 f_X11_43 kx_0 (fun _ _ => rfl) rx_0_7 (by decide) ?_
  refine R_iload_n e_X11_fly_0.2.2.1 1 rfl ?_
  refine R_callV (mc := 0) (ms := 0) (mc' := 0) (ms' := 0) (M' := M_X0_hasKite) (d' := 0) (as := [vI l1]) (st := []) 0 1 e_X11_fly_0.2.2.2.1 (kCVof m_X0_hasKite l_X11_238) rfl (by decide) (kC_self isC_5) (by decide) (by decide) rfl rfl (by show (0 : Nat) ≤ 8; decide) ?_
  refine Run.mono h (fun r1 s2 h => ?_)
  refine R_eqs (st2 := [vI r1]) rfl rfl ?_
  obtain ⟨q3, h⟩ := h
  refine R_if_eq 35 e_X11_fly_0.2.2.2.2.1 (by decide) q3  (fun q => ?_) (fun q => ?_)
  · replace h := h.1 q
    refine R_aload_n e_X11_fly_1.2.2.2.2.2.2.2.1 0 rfl ?_
    refine R_iconst e_X11_fly_1.2.2.2.2.2.2.2.2.1 ?_
    refine R_callV (mc := 0) (ms := 0) (mc' := 0) (ms' := 0) (M' := M_X11_deny) (d' := 0) (as := [vI 1]) (st := []) 11 1 e_X11_fly_1.2.2.2.2.2.2.2.2.2 (kCVof m_X11_deny l_X11_132) rfl (by decide) kx_0 (by decide) (by decide) rfl rfl (by show (0 : Nat) ≤ 8; decide) ?_
    refine Run.mono h (fun r4 s5 h => ?_)
    refine R_eqs (st2 := [vI r4]) rfl rfl ?_
    exact R_ireturn e_X11_fly_2.1 rfl h
  · replace h := h.2 q
    refine R_aload_n e_X11_fly_0.2.2.2.2.2.1 0 rfl ?_
    refine R_getA 11 7 5 e_X11_fly_0.2.2.2.2.2.2.1 f_X11_43 kx_0 (fun _ _ => rfl) rx_0_7 (by decide) ?_
    refine R_iload_n e_X11_fly_0.2.2.2.2.2.2.2.1 2 rfl ?_
    refine R_iload_n e_X11_fly_0.2.2.2.2.2.2.2.2.1 3 rfl ?_
    refine R_callV (mc := 0) (ms := 0) (mc' := 0) (ms' := 0) (M' := M_X0_hasField) (d' := 1) (as := [vI l2, vI l3]) (st := []) 0 2 e_X11_fly_0.2.2.2.2.2.2.2.2.2 (kCVof m_X0_hasField l_X11_321) rfl (by decide) (kC_self isC_5) (by decide) (by decide) rfl rfl (by show (0 : Nat) ≤ 8; decide) ?_
    refine Run.mono h (fun r6 s7 h => ?_)
    refine R_eqs (st2 := [vI r6]) rfl rfl ?_
    obtain ⟨q8, h⟩ := h
    refine R_if_eq 35 e_X11_fly_1.1 (by decide) q8  (fun q => ?_) (fun q => ?_)
    · replace h := h.1 q
      refine R_aload_n e_X11_fly_1.2.2.2.2.2.2.2.1 0 rfl ?_
      refine R_iconst e_X11_fly_1.2.2.2.2.2.2.2.2.1 ?_
      refine R_callV (mc := 0) (ms := 0) (mc' := 0) (ms' := 0) (M' := M_X11_deny) (d' := 0) (as := [vI 1]) (st := []) 11 1 e_X11_fly_1.2.2.2.2.2.2.2.2.2 (kCVof m_X11_deny l_X11_132) rfl (by decide) kx_0 (by decide) (by decide) rfl rfl (by show (0 : Nat) ≤ 8; decide) ?_
      refine Run.mono h (fun r9 s10 h => ?_)
      refine R_eqs (st2 := [vI r9]) rfl rfl ?_
      exact R_ireturn e_X11_fly_2.1 rfl h
    · replace h := h.2 q
      refine R_iload e_X11_fly_1.2.1 4 rfl ?_
      refine R_iconst e_X11_fly_1.2.2.1 ?_
      obtain ⟨q11, h⟩ := h
      refine R_icmp_lt 35 e_X11_fly_1.2.2.2.1 (by decide) q11 (by decide) (fun q => ?_) (fun q => ?_)
      · replace h := h.1 q
        refine R_aload_n e_X11_fly_1.2.2.2.2.2.2.2.1 0 rfl ?_
        refine R_iconst e_X11_fly_1.2.2.2.2.2.2.2.2.1 ?_
        refine R_callV (mc := 0) (ms := 0) (mc' := 0) (ms' := 0) (M' := M_X11_deny) (d' := 0) (as := [vI 1]) (st := []) 11 1 e_X11_fly_1.2.2.2.2.2.2.2.2.2 (kCVof m_X11_deny l_X11_132) rfl (by decide) kx_0 (by decide) (by decide) rfl rfl (by show (0 : Nat) ≤ 8; decide) ?_
        refine Run.mono h (fun r12 s13 h => ?_)
        refine R_eqs (st2 := [vI r12]) rfl rfl ?_
        exact R_ireturn e_X11_fly_2.1 rfl h
      · replace h := h.2 q
        refine R_iload e_X11_fly_1.2.2.2.2.1 4 rfl ?_
        refine R_iconst e_X11_fly_1.2.2.2.2.2.1 ?_
        refine R_icmp_le 41 e_X11_fly_1.2.2.2.2.2.2.1 (by decide) q11 (by decide) (fun q => ?_) (fun q => ?_)
        · replace h := h.1 q
          refine R_aload_n e_X11_fly_2.2.1 0 rfl ?_
          refine R_getA 11 8 31 e_X11_fly_2.2.2.1 f_X11_47 kx_0 (fun _ _ => rfl) rx_0_8 (by decide) ?_
          refine R_aload_n e_X11_fly_2.2.2.2.1 0 rfl ?_
          refine R_getA 11 7 5 e_X11_fly_2.2.2.2.2.1 f_X11_43 kx_0 (fun _ _ => rfl) rx_0_7 (by decide) ?_
          refine R_callV (mc := 0) (ms := 0) (mc' := 0) (ms' := 0) (M' := M_X0_copy) (d' := 1) (as := [vA G 5]) (st := []) 0 1 e_X11_fly_2.2.2.2.2.2.1 (kCVof m_X0_copy l_X11_167) rfl (by decide) (kC_self isC_31) (by decide) (by decide) rfl rfl (by show (0 : Nat) ≤ 8; decide) ?_
          refine Run.mono h (fun r14 s15 h => ?_)
          refine R_eqs (st2 := []) rfl rfl ?_
          refine R_aload_n e_X11_fly_2.2.2.2.2.2.2.1 0 rfl ?_
          refine R_getA 11 15 82 e_X11_fly_2.2.2.2.2.2.2.2.1 f_X11_93 kx_0 (fun _ _ => rfl) rx_0_15 (by decide) ?_
          refine R_iload_n e_X11_fly_2.2.2.2.2.2.2.2.2.1 1 rfl ?_
          refine R_iload_n e_X11_fly_2.2.2.2.2.2.2.2.2.2 2 rfl ?_
          refine R_iload_n e_X11_fly_3.1 3 rfl ?_
          refine R_iload e_X11_fly_3.2.1 4 rfl ?_
          refine R_callV (mc := 0) (ms := 0) (mc' := 0) (ms' := 0) (M' := M_X5_seekFlight) (d' := 21) (as := [vI l1, vI l2, vI l3, vI l4]) (st := []) 5 4 e_X11_fly_3.2.2.1 (kCVof m_X5_seekFlight l_X11_393) rfl (by decide) kx_82 (by decide) (by decide) rfl rfl (by show (0 : Nat) ≤ 8; decide) ?_
          refine Run.mono h (fun r16 s17 h => ?_)
          refine R_eqs (st2 := []) rfl rfl ?_
          refine R_aload_n e_X11_fly_3.2.2.2.1 0 rfl ?_
          refine R_aload_n e_X11_fly_3.2.2.2.2.1 0 rfl ?_
          refine R_getA 11 15 82 e_X11_fly_3.2.2.2.2.2.1 f_X11_93 kx_0 (fun _ _ => rfl) rx_0_15 (by decide) ?_
          refine R_getI 5 7 7 e_X11_fly_3.2.2.2.2.2.2.1 f_X11_397 kx_82 (fun _ _ => rfl) rfl ?_
          refine R_callV (mc := 0) (ms := 0) (mc' := 0) (ms' := 0) (M' := M_X11_give) (d' := 0) (as := [vI (s17 82 7)]) (st := []) 11 1 e_X11_fly_3.2.2.2.2.2.2.2.1 (kCVof m_X11_give l_X11_176) rfl (by decide) kx_0 (by decide) (by decide) rfl rfl (by show (0 : Nat) ≤ 8; decide) ?_
          refine Run.mono h (fun r18 s19 h => ?_)
          refine R_eqs (st2 := [vI r18]) rfl rfl ?_
          exact R_ireturn e_X11_fly_3.2.2.2.2.2.2.2.2 rfl h
        · replace h := h.2 q
          refine R_aload_n e_X11_fly_1.2.2.2.2.2.2.2.1 0 rfl ?_
          refine R_iconst e_X11_fly_1.2.2.2.2.2.2.2.2.1 ?_
          refine R_callV (mc := 0) (ms := 0) (mc' := 0) (ms' := 0) (M' := M_X11_deny) (d' := 0) (as := [vI 1]) (st := []) 11 1 e_X11_fly_1.2.2.2.2.2.2.2.2.2 (kCVof m_X11_deny l_X11_132) rfl (by decide) kx_0 (by decide) (by decide) rfl rfl (by show (0 : Nat) ≤ 8; decide) ?_
          refine Run.mono h (fun r20 s21 h => ?_)
          refine R_eqs (st2 := [vI r20]) rfl rfl ?_
          exact R_ireturn e_X11_fly_2.1 rfl h
/-! KiteLand.flyAt(I)I -/
theorem e_X11_flyAt_0 : decode cX11_flyAt 0 = .ok (.iload_n 1, 1) ∧ decode cX11_flyAt 1 = .ok (.ifCond .ge 9, 3) ∧ decode cX11_flyAt 4 = .ok (.aload_n 0, 1) ∧ decode cX11_flyAt 5 = .ok (.iconst 1, 1) ∧ decode cX11_flyAt 6 = .ok (.invokevirtual 132, 3) ∧ decode cX11_flyAt 9 = .ok (.ireturn, 1) ∧ decode cX11_flyAt 10 = .ok (.iload_n 1, 1) ∧ decode cX11_flyAt 11 = .ok (.aload_n 0, 1) ∧ decode cX11_flyAt 12 = .ok (.getfield 93, 3) ∧ decode cX11_flyAt 15 = .ok (.getfield 400, 3) := by decide +kernel
theorem e_X11_flyAt_1 : decode cX11_flyAt 18 = .ok (.if_icmp .lt 12, 3) ∧ decode cX11_flyAt 21 = .ok (.aload_n 0, 1) ∧ decode cX11_flyAt 22 = .ok (.bipush 6, 2) ∧ decode cX11_flyAt 24 = .ok (.invokevirtual 132, 3) ∧ decode cX11_flyAt 27 = .ok (.goto 16, 3) ∧ decode cX11_flyAt 30 = .ok (.aload_n 0, 1) ∧ decode cX11_flyAt 31 = .ok (.aload_n 0, 1) ∧ decode cX11_flyAt 32 = .ok (.getfield 93, 3) ∧ decode cX11_flyAt 35 = .ok (.getfield 403, 3) ∧ decode cX11_flyAt 38 = .ok (.iload_n 1, 1) := by decide +kernel
theorem e_X11_flyAt_2 : decode cX11_flyAt 39 = .ok (.iaload, 1) ∧ decode cX11_flyAt 40 = .ok (.invokevirtual 176, 3) ∧ decode cX11_flyAt 43 = .ok (.ireturn, 1) := by decide +kernel
theorem S_X11_flyAt {G : Kg} {σ : Kmem} {Q : Int → Kmem → Prop} {l1 : Int}  (h : (rI l1) ∧ ((0 ≤ l1 → (rI (σ 82 6)) ∧ ((l1 < σ 82 6 → (0 ≤ l1 ∧ l1 < 5) ∧ Run G WX M_X11_give 0 0 0 [vA G 0, vI (σ 84 l1)] σ (fun r4 s5 => Q r4 s5)) ∧ (σ 82 6 ≤ l1 → Run G WX M_X11_deny 0 0 0 [vA G 0, vI 6] σ (fun r6 s7 => Q r6 s7)))) ∧ (l1 < 0 → Run G WX M_X11_deny 0 0 0 [vA G 0, vI 1] σ (fun r8 s9 => Q r8 s9)))) : Run G WX M_X11_flyAt 1 0 0 [vA G 0, vI l1] σ Q := by
  refine Run.of (by decide +kernel) (by show (2 : Nat) ≤ 2; decide) ?_
  show Ex G WX M_X11_flyAt 1 0 0 0 [(0, vA G 0), (1, vI l1)] [] σ Q
  refine R_iload_n e_X11_flyAt_0.1 1 rfl ?_
  obtain ⟨q1, h⟩ := h
  refine R_if_ge 10 e_X11_flyAt_0.2.1 (by decide) q1  (fun q => ?_) (fun q => ?_)
  · replace h := h.1 q
    refine R_iload_n e_X11_flyAt_0.2.2.2.2.2.2.1 1 rfl ?_
    refine R_aload_n e_X11_flyAt_0.2.2.2.2.2.2.2.1 0 rfl ?_
    refine R_getA 11 15 82 e_X11_flyAt_0.2.2.2.2.2.2.2.2.1 f_X11_93 kx_0 (fun _ _ => rfl) rx_0_15 (by decide) ?_
    refine R_getI 5 6 6 e_X11_flyAt_0.2.2.2.2.2.2.2.2.2 f_X11_400 kx_82 (fun _ _ => rfl) rfl ?_
    obtain ⟨q2, h⟩ := h
    refine R_icmp_lt 30 e_X11_flyAt_1.1 (by decide) q1 q2 (fun q => ?_) (fun q => ?_)
    · replace h := h.1 q
      refine R_aload_n e_X11_flyAt_1.2.2.2.2.2.1 0 rfl ?_
      refine R_aload_n e_X11_flyAt_1.2.2.2.2.2.2.1 0 rfl ?_
      refine R_getA 11 15 82 e_X11_flyAt_1.2.2.2.2.2.2.2.1 f_X11_93 kx_0 (fun _ _ => rfl) rx_0_15 (by decide) ?_
      refine R_getA 5 5 84 e_X11_flyAt_1.2.2.2.2.2.2.2.2.1 f_X11_403 kx_82 (fun _ _ => rfl) rx_82_5 (by decide) ?_
      refine R_iload_n e_X11_flyAt_1.2.2.2.2.2.2.2.2.2 1 rfl ?_
      obtain ⟨q3, h⟩ := h
      refine R_iald 5 e_X11_flyAt_2.1 kxa_84 q3 ?_
      refine R_callV (mc := 0) (ms := 0) (mc' := 0) (ms' := 0) (M' := M_X11_give) (d' := 0) (as := [vI (σ 84 l1)]) (st := []) 11 1 e_X11_flyAt_2.2.1 (kCVof m_X11_give l_X11_176) rfl (by decide) kx_0 (by decide) (by decide) rfl rfl (by show (0 : Nat) ≤ 8; decide) ?_
      refine Run.mono h (fun r4 s5 h => ?_)
      refine R_eqs (st2 := [vI r4]) rfl rfl ?_
      exact R_ireturn e_X11_flyAt_2.2.2 rfl h
    · replace h := h.2 q
      refine R_aload_n e_X11_flyAt_1.2.1 0 rfl ?_
      refine R_bipush e_X11_flyAt_1.2.2.1 (by decide) ?_
      refine R_callV (mc := 0) (ms := 0) (mc' := 0) (ms' := 0) (M' := M_X11_deny) (d' := 0) (as := [vI 6]) (st := []) 11 1 e_X11_flyAt_1.2.2.2.1 (kCVof m_X11_deny l_X11_132) rfl (by decide) kx_0 (by decide) (by decide) rfl rfl (by show (0 : Nat) ≤ 8; decide) ?_
      refine Run.mono h (fun r6 s7 h => ?_)
      refine R_eqs (st2 := [vI r6]) rfl rfl ?_
      refine R_goto 43 e_X11_flyAt_1.2.2.2.2.1 (by decide) ?_
      exact R_ireturn e_X11_flyAt_2.2.2 rfl h
  · replace h := h.2 q
    refine R_aload_n e_X11_flyAt_0.2.2.1 0 rfl ?_
    refine R_iconst e_X11_flyAt_0.2.2.2.1 ?_
    refine R_callV (mc := 0) (ms := 0) (mc' := 0) (ms' := 0) (M' := M_X11_deny) (d' := 0) (as := [vI 1]) (st := []) 11 1 e_X11_flyAt_0.2.2.2.2.1 (kCVof m_X11_deny l_X11_132) rfl (by decide) kx_0 (by decide) (by decide) rfl rfl (by show (0 : Nat) ≤ 8; decide) ?_
    refine Run.mono h (fun r8 s9 h => ?_)
    refine R_eqs (st2 := [vI r8]) rfl rfl ?_
    exact R_ireturn e_X11_flyAt_0.2.2.2.2.2.1 rfl h
/-! KiteLand.cover(III)I -/
theorem e_X11_cover_0 : decode cX11_cover 0 = .ok (.aload_n 0, 1) ∧ decode cX11_cover 1 = .ok (.iload_n 1, 1) ∧ decode cX11_cover 2 = .ok (.iload_n 2, 1) ∧ decode cX11_cover 3 = .ok (.iload_n 3, 1) ∧ decode cX11_cover 4 = .ok (.invokevirtual 406, 3) ∧ decode cX11_cover 7 = .ok (.istore 4, 2) ∧ decode cX11_cover 9 = .ok (.iload 4, 2) ∧ decode cX11_cover 11 = .ok (.ifCond .ne 20, 3) ∧ decode cX11_cover 14 = .ok (.aload_n 0, 1) ∧ decode cX11_cover 15 = .ok (.aload_n 0, 1) := by decide +kernel
theorem e_X11_cover_1 : decode cX11_cover 16 = .ok (.getfield 93, 3) ∧ decode cX11_cover 19 = .ok (.getfield 410, 3) ∧ decode cX11_cover 22 = .ok (.invokestatic 413, 3) ∧ decode cX11_cover 25 = .ok (.invokevirtual 176, 3) ∧ decode cX11_cover 28 = .ok (.goto 9, 3) ∧ decode cX11_cover 31 = .ok (.aload_n 0, 1) ∧ decode cX11_cover 32 = .ok (.iload 4, 2) ∧ decode cX11_cover 34 = .ok (.invokevirtual 132, 3) ∧ decode cX11_cover 37 = .ok (.ireturn, 1) := by decide +kernel
theorem S_X11_cover {G : Kg} {σ : Kmem} {Q : Int → Kmem → Prop} {l1 l2 l3 : Int}  (h : Run G WX M_X11_coverStatus 4 0 0 [vA G 0, vI l1, vI l2, vI l3] σ (fun r1 s2 => (rI r1) ∧ ((r1 ≠ 0 → Run G WX M_X11_deny 0 0 0 [vA G 0, vI r1] s2 (fun r4 s5 => Q r4 s5)) ∧ (r1 = 0 → Run G WX M_J6_bitCount_0f7a4 0 0 0 [vI (s2 82 14)] s2 (fun r6 s7 => Run G WX M_X11_give 0 0 0 [vA G 0, vI r6] s7 (fun r8 s9 => Q r8 s9)))))) : Run G WX M_X11_cover 5 0 0 [vA G 0, vI l1, vI l2, vI l3] σ Q := by
  refine Run.of (by decide +kernel) (by show (4 : Nat) ≤ 5; decide) ?_
  show Ex G WX M_X11_cover 5 0 0 0 [(0, vA G 0), (1, vI l1), (2, vI l2), (3, vI l3)] [] σ Q
  refine R_aload_n e_X11_cover_0.1 0 rfl ?_
  refine R_iload_n e_X11_cover_0.2.1 1 rfl ?_
  refine R_iload_n e_X11_cover_0.2.2.1 2 rfl ?_
  refine R_iload_n e_X11_cover_0.2.2.2.1 3 rfl ?_
  refine R_callV (mc := 0) (ms := 0) (mc' := 0) (ms' := 0) (M' := M_X11_coverStatus) (d' := 4) (as := [vI l1, vI l2, vI l3]) (st := []) 11 3 e_X11_cover_0.2.2.2.2.1 (kCVof m_X11_coverStatus l_X11_406) rfl (by decide) kx_0 (by decide) (by decide) rfl rfl (by show (0 : Nat) ≤ 8; decide) ?_
  refine Run.mono h (fun r1 s2 h => ?_)
  refine R_eqs (st2 := [vI r1]) rfl rfl ?_
  refine R_istore (ls2 := [(4, vI r1), (0, vA G 0), (1, vI l1), (2, vI l2), (3, vI l3)]) e_X11_cover_0.2.2.2.2.2.1 (by decide) rfl ?_
  refine R_iload e_X11_cover_0.2.2.2.2.2.2.1 0 rfl ?_
  obtain ⟨q3, h⟩ := h
  refine R_if_ne 31 e_X11_cover_0.2.2.2.2.2.2.2.1 (by decide) q3  (fun q => ?_) (fun q => ?_)
  · replace h := h.1 q
    refine R_aload_n e_X11_cover_1.2.2.2.2.2.1 1 rfl ?_
    refine R_iload e_X11_cover_1.2.2.2.2.2.2.1 0 rfl ?_
    refine R_callV (mc := 0) (ms := 0) (mc' := 0) (ms' := 0) (M' := M_X11_deny) (d' := 0) (as := [vI r1]) (st := []) 11 1 e_X11_cover_1.2.2.2.2.2.2.2.1 (kCVof m_X11_deny l_X11_132) rfl (by decide) kx_0 (by decide) (by decide) rfl rfl (by show (0 : Nat) ≤ 8; decide) ?_
    refine Run.mono h (fun r4 s5 h => ?_)
    refine R_eqs (st2 := [vI r4]) rfl rfl ?_
    exact R_ireturn e_X11_cover_1.2.2.2.2.2.2.2.2 rfl h
  · replace h := h.2 q
    refine R_aload_n e_X11_cover_0.2.2.2.2.2.2.2.2.1 1 rfl ?_
    refine R_aload_n e_X11_cover_0.2.2.2.2.2.2.2.2.2 1 rfl ?_
    refine R_getA 11 15 82 e_X11_cover_1.1 f_X11_93 kx_0 (fun _ _ => rfl) rx_0_15 (by decide) ?_
    refine R_getI 5 14 14 e_X11_cover_1.2.1 f_X11_410 kx_82 (fun _ _ => rfl) rfl ?_
    refine R_callS (mc := 0) (ms := 0) (mc' := 0) (ms' := 0) (M' := M_J6_bitCount_0f7a4) (d' := 0) (as := [vI (s2 82 14)]) (st := [vA G 0]) 1 e_X11_cover_1.2.2.1 (kCSof m_J6_bitCount_0f7a4 l_X11_413) (by decide) (by decide) rfl rfl (by show (1 : Nat) ≤ 8; decide) ?_
    refine Run.mono h (fun r6 s7 h => ?_)
    refine R_eqs (st2 := [vI r6, vA G 0]) rfl rfl ?_
    refine R_callV (mc := 0) (ms := 0) (mc' := 0) (ms' := 0) (M' := M_X11_give) (d' := 0) (as := [vI r6]) (st := []) 11 1 e_X11_cover_1.2.2.2.1 (kCVof m_X11_give l_X11_176) rfl (by decide) kx_0 (by decide) (by decide) rfl rfl (by show (0 : Nat) ≤ 8; decide) ?_
    refine Run.mono h (fun r8 s9 h => ?_)
    refine R_eqs (st2 := [vI r8]) rfl rfl ?_
    refine R_goto 37 e_X11_cover_1.2.2.2.2.1 (by decide) ?_
    exact R_ireturn e_X11_cover_1.2.2.2.2.2.2.2.2 rfl h
/-! KiteLand.coverSet(III)I -/
theorem e_X11_coverSet_0 : decode cX11_coverSet 0 = .ok (.aload_n 0, 1) ∧ decode cX11_coverSet 1 = .ok (.iload_n 1, 1) ∧ decode cX11_coverSet 2 = .ok (.iload_n 2, 1) ∧ decode cX11_coverSet 3 = .ok (.iload_n 3, 1) ∧ decode cX11_coverSet 4 = .ok (.invokevirtual 406, 3) ∧ decode cX11_coverSet 7 = .ok (.istore 4, 2) ∧ decode cX11_coverSet 9 = .ok (.iload 4, 2) ∧ decode cX11_coverSet 11 = .ok (.ifCond .ne 17, 3) ∧ decode cX11_coverSet 14 = .ok (.aload_n 0, 1) ∧ decode cX11_coverSet 15 = .ok (.aload_n 0, 1) := by decide +kernel
theorem e_X11_coverSet_1 : decode cX11_coverSet 16 = .ok (.getfield 93, 3) ∧ decode cX11_coverSet 19 = .ok (.getfield 410, 3) ∧ decode cX11_coverSet 22 = .ok (.invokevirtual 176, 3) ∧ decode cX11_coverSet 25 = .ok (.goto 9, 3) ∧ decode cX11_coverSet 28 = .ok (.aload_n 0, 1) ∧ decode cX11_coverSet 29 = .ok (.iload 4, 2) ∧ decode cX11_coverSet 31 = .ok (.invokevirtual 132, 3) ∧ decode cX11_coverSet 34 = .ok (.ireturn, 1) := by decide +kernel
theorem S_X11_coverSet {G : Kg} {σ : Kmem} {Q : Int → Kmem → Prop} {l1 l2 l3 : Int}  (h : Run G WX M_X11_coverStatus 4 0 0 [vA G 0, vI l1, vI l2, vI l3] σ (fun r1 s2 => (rI r1) ∧ ((r1 ≠ 0 → Run G WX M_X11_deny 0 0 0 [vA G 0, vI r1] s2 (fun r4 s5 => Q r4 s5)) ∧ (r1 = 0 → Run G WX M_X11_give 0 0 0 [vA G 0, vI (s2 82 14)] s2 (fun r6 s7 => Q r6 s7))))) : Run G WX M_X11_coverSet 5 0 0 [vA G 0, vI l1, vI l2, vI l3] σ Q := by
  refine Run.of (by decide +kernel) (by show (4 : Nat) ≤ 5; decide) ?_
  show Ex G WX M_X11_coverSet 5 0 0 0 [(0, vA G 0), (1, vI l1), (2, vI l2), (3, vI l3)] [] σ Q
  refine R_aload_n e_X11_coverSet_0.1 0 rfl ?_
  refine R_iload_n e_X11_coverSet_0.2.1 1 rfl ?_
  refine R_iload_n e_X11_coverSet_0.2.2.1 2 rfl ?_
  refine R_iload_n e_X11_coverSet_0.2.2.2.1 3 rfl ?_
  refine R_callV (mc := 0) (ms := 0) (mc' := 0) (ms' := 0) (M' := M_X11_coverStatus) (d' := 4) (as := [vI l1, vI l2, vI l3]) (st := []) 11 3 e_X11_coverSet_0.2.2.2.2.1 (kCVof m_X11_coverStatus l_X11_406) rfl (by decide) kx_0 (by decide) (by decide) rfl rfl (by show (0 : Nat) ≤ 8; decide) ?_
  refine Run.mono h (fun r1 s2 h => ?_)
  refine R_eqs (st2 := [vI r1]) rfl rfl ?_
  refine R_istore (ls2 := [(4, vI r1), (0, vA G 0), (1, vI l1), (2, vI l2), (3, vI l3)]) e_X11_coverSet_0.2.2.2.2.2.1 (by decide) rfl ?_
  refine R_iload e_X11_coverSet_0.2.2.2.2.2.2.1 0 rfl ?_
  obtain ⟨q3, h⟩ := h
  refine R_if_ne 28 e_X11_coverSet_0.2.2.2.2.2.2.2.1 (by decide) q3  (fun q => ?_) (fun q => ?_)
  · replace h := h.1 q
    refine R_aload_n e_X11_coverSet_1.2.2.2.2.1 1 rfl ?_
    refine R_iload e_X11_coverSet_1.2.2.2.2.2.1 0 rfl ?_
    refine R_callV (mc := 0) (ms := 0) (mc' := 0) (ms' := 0) (M' := M_X11_deny) (d' := 0) (as := [vI r1]) (st := []) 11 1 e_X11_coverSet_1.2.2.2.2.2.2.1 (kCVof m_X11_deny l_X11_132) rfl (by decide) kx_0 (by decide) (by decide) rfl rfl (by show (0 : Nat) ≤ 8; decide) ?_
    refine Run.mono h (fun r4 s5 h => ?_)
    refine R_eqs (st2 := [vI r4]) rfl rfl ?_
    exact R_ireturn e_X11_coverSet_1.2.2.2.2.2.2.2 rfl h
  · replace h := h.2 q
    refine R_aload_n e_X11_coverSet_0.2.2.2.2.2.2.2.2.1 1 rfl ?_
    refine R_aload_n e_X11_coverSet_0.2.2.2.2.2.2.2.2.2 1 rfl ?_
    refine R_getA 11 15 82 e_X11_coverSet_1.1 f_X11_93 kx_0 (fun _ _ => rfl) rx_0_15 (by decide) ?_
    refine R_getI 5 14 14 e_X11_coverSet_1.2.1 f_X11_410 kx_82 (fun _ _ => rfl) rfl ?_
    refine R_callV (mc := 0) (ms := 0) (mc' := 0) (ms' := 0) (M' := M_X11_give) (d' := 0) (as := [vI (s2 82 14)]) (st := []) 11 1 e_X11_coverSet_1.2.2.1 (kCVof m_X11_give l_X11_176) rfl (by decide) kx_0 (by decide) (by decide) rfl rfl (by show (0 : Nat) ≤ 8; decide) ?_
    refine Run.mono h (fun r6 s7 h => ?_)
    refine R_eqs (st2 := [vI r6]) rfl rfl ?_
    refine R_goto 34 e_X11_coverSet_1.2.2.2.1 (by decide) ?_
    exact R_ireturn e_X11_coverSet_1.2.2.2.2.2.2.2 rfl h
/-! KiteLand.settle(I)I -/
theorem e_X11_settle_0 : decode cX11_settle 0 = .ok (.iload_n 1, 1) ∧ decode cX11_settle 1 = .ok (.ifCond .lt 9, 3) ∧ decode cX11_settle 4 = .ok (.iload_n 1, 1) ∧ decode cX11_settle 5 = .ok (.bipush 20, 2) ∧ decode cX11_settle 7 = .ok (.if_icmp .le 9, 3) ∧ decode cX11_settle 10 = .ok (.aload_n 0, 1) ∧ decode cX11_settle 11 = .ok (.iconst 1, 1) ∧ decode cX11_settle 12 = .ok (.invokevirtual 132, 3) ∧ decode cX11_settle 15 = .ok (.ireturn, 1) ∧ decode cX11_settle 16 = .ok (.aload_n 0, 1) := by decide +kernel
theorem e_X11_settle_1 : decode cX11_settle 17 = .ok (.getfield 47, 3) ∧ decode cX11_settle 20 = .ok (.aload_n 0, 1) ∧ decode cX11_settle 21 = .ok (.getfield 43, 3) ∧ decode cX11_settle 24 = .ok (.invokevirtual 167, 3) ∧ decode cX11_settle 27 = .ok (.aload_n 0, 1) ∧ decode cX11_settle 28 = .ok (.aload_n 0, 1) ∧ decode cX11_settle 29 = .ok (.getfield 93, 3) ∧ decode cX11_settle 32 = .ok (.iload_n 1, 1) ∧ decode cX11_settle 33 = .ok (.invokevirtual 418, 3) ∧ decode cX11_settle 36 = .ok (.invokevirtual 176, 3) := by decide +kernel
theorem e_X11_settle_2 : decode cX11_settle 39 = .ok (.ireturn, 1) := by decide +kernel
theorem S_X11_settle {G : Kg} {σ : Kmem} {Q : Int → Kmem → Prop} {l1 : Int}  (h : (rI l1) ∧ ((l1 < 0 → Run G WX M_X11_deny 0 0 0 [vA G 0, vI 1] σ (fun r2 s3 => Q r2 s3)) ∧ (0 ≤ l1 → ((l1 ≤ 20 → Run G WX M_X0_copy 1 0 0 [vA G 31, vA G 5] σ (fun r4 s5 => Run G WX M_X5_mostSettled 4 0 0 [vA G 82, vI l1] s5 (fun r6 s7 => Run G WX M_X11_give 0 0 0 [vA G 0, vI r6] s7 (fun r8 s9 => Q r8 s9)))) ∧ (20 < l1 → Run G WX M_X11_deny 0 0 0 [vA G 0, vI 1] σ (fun r10 s11 => Q r10 s11)))))) : Run G WX M_X11_settle 5 0 0 [vA G 0, vI l1] σ Q := by
  refine Run.of (by decide +kernel) (by show (2 : Nat) ≤ 2; decide) ?_
  show Ex G WX M_X11_settle 5 0 0 0 [(0, vA G 0), (1, vI l1)] [] σ Q
  refine R_iload_n e_X11_settle_0.1 1 rfl ?_
  obtain ⟨q1, h⟩ := h
  refine R_if_lt 10 e_X11_settle_0.2.1 (by decide) q1  (fun q => ?_) (fun q => ?_)
  · replace h := h.1 q
    refine R_aload_n e_X11_settle_0.2.2.2.2.2.1 0 rfl ?_
    refine R_iconst e_X11_settle_0.2.2.2.2.2.2.1 ?_
    refine R_callV (mc := 0) (ms := 0) (mc' := 0) (ms' := 0) (M' := M_X11_deny) (d' := 0) (as := [vI 1]) (st := []) 11 1 e_X11_settle_0.2.2.2.2.2.2.2.1 (kCVof m_X11_deny l_X11_132) rfl (by decide) kx_0 (by decide) (by decide) rfl rfl (by show (0 : Nat) ≤ 8; decide) ?_
    refine Run.mono h (fun r2 s3 h => ?_)
    refine R_eqs (st2 := [vI r2]) rfl rfl ?_
    exact R_ireturn e_X11_settle_0.2.2.2.2.2.2.2.2.1 rfl h
  · replace h := h.2 q
    refine R_iload_n e_X11_settle_0.2.2.1 1 rfl ?_
    refine R_bipush e_X11_settle_0.2.2.2.1 (by decide) ?_
    refine R_icmp_le 16 e_X11_settle_0.2.2.2.2.1 (by decide) q1 (by decide) (fun q => ?_) (fun q => ?_)
    · replace h := h.1 q
      refine R_aload_n e_X11_settle_0.2.2.2.2.2.2.2.2.2 0 rfl ?_
      refine R_getA 11 8 31 e_X11_settle_1.1 f_X11_47 kx_0 (fun _ _ => rfl) rx_0_8 (by decide) ?_
      refine R_aload_n e_X11_settle_1.2.1 0 rfl ?_
      refine R_getA 11 7 5 e_X11_settle_1.2.2.1 f_X11_43 kx_0 (fun _ _ => rfl) rx_0_7 (by decide) ?_
      refine R_callV (mc := 0) (ms := 0) (mc' := 0) (ms' := 0) (M' := M_X0_copy) (d' := 1) (as := [vA G 5]) (st := []) 0 1 e_X11_settle_1.2.2.2.1 (kCVof m_X0_copy l_X11_167) rfl (by decide) (kC_self isC_31) (by decide) (by decide) rfl rfl (by show (0 : Nat) ≤ 8; decide) ?_
      refine Run.mono h (fun r4 s5 h => ?_)
      refine R_eqs (st2 := []) rfl rfl ?_
      refine R_aload_n e_X11_settle_1.2.2.2.2.1 0 rfl ?_
      refine R_aload_n e_X11_settle_1.2.2.2.2.2.1 0 rfl ?_
      refine R_getA 11 15 82 e_X11_settle_1.2.2.2.2.2.2.1 f_X11_93 kx_0 (fun _ _ => rfl) rx_0_15 (by decide) ?_
      refine R_iload_n e_X11_settle_1.2.2.2.2.2.2.2.1 1 rfl ?_
      refine R_callV (mc := 0) (ms := 0) (mc' := 0) (ms' := 0) (M' := M_X5_mostSettled) (d' := 4) (as := [vI l1]) (st := [vA G 0]) 5 1 e_X11_settle_1.2.2.2.2.2.2.2.2.1 (kCVof m_X5_mostSettled l_X11_418) rfl (by decide) kx_82 (by decide) (by decide) rfl rfl (by show (1 : Nat) ≤ 8; decide) ?_
      refine Run.mono h (fun r6 s7 h => ?_)
      refine R_eqs (st2 := [vI r6, vA G 0]) rfl rfl ?_
      refine R_callV (mc := 0) (ms := 0) (mc' := 0) (ms' := 0) (M' := M_X11_give) (d' := 0) (as := [vI r6]) (st := []) 11 1 e_X11_settle_1.2.2.2.2.2.2.2.2.2 (kCVof m_X11_give l_X11_176) rfl (by decide) kx_0 (by decide) (by decide) rfl rfl (by show (0 : Nat) ≤ 8; decide) ?_
      refine Run.mono h (fun r8 s9 h => ?_)
      refine R_eqs (st2 := [vI r8]) rfl rfl ?_
      exact R_ireturn e_X11_settle_2 rfl h
    · replace h := h.2 q
      refine R_aload_n e_X11_settle_0.2.2.2.2.2.1 0 rfl ?_
      refine R_iconst e_X11_settle_0.2.2.2.2.2.2.1 ?_
      refine R_callV (mc := 0) (ms := 0) (mc' := 0) (ms' := 0) (M' := M_X11_deny) (d' := 0) (as := [vI 1]) (st := []) 11 1 e_X11_settle_0.2.2.2.2.2.2.2.1 (kCVof m_X11_deny l_X11_132) rfl (by decide) kx_0 (by decide) (by decide) rfl rfl (by show (0 : Nat) ≤ 8; decide) ?_
      refine Run.mono h (fun r10 s11 h => ?_)
      refine R_eqs (st2 := [vI r10]) rfl rfl ?_
      exact R_ireturn e_X11_settle_0.2.2.2.2.2.2.2.2.1 rfl h
/-! KiteLand.strip(III)I -/
theorem e_X11_strip_0 : decode cX11_strip 0 = .ok (.aload_n 0, 1) ∧ decode cX11_strip 1 = .ok (.getfield 43, 3) ∧ decode cX11_strip 4 = .ok (.iload_n 1, 1) ∧ decode cX11_strip 5 = .ok (.invokevirtual 238, 3) ∧ decode cX11_strip 8 = .ok (.ifCond .eq 22, 3) ∧ decode cX11_strip 11 = .ok (.aload_n 0, 1) ∧ decode cX11_strip 12 = .ok (.getfield 43, 3) ∧ decode cX11_strip 15 = .ok (.iload_n 2, 1) ∧ decode cX11_strip 16 = .ok (.invokevirtual 421, 3) ∧ decode cX11_strip 19 = .ok (.ifCond .eq 11, 3) := by decide +kernel
theorem e_X11_strip_1 : decode cX11_strip 22 = .ok (.aload_n 0, 1) ∧ decode cX11_strip 23 = .ok (.iload_n 3, 1) ∧ decode cX11_strip 24 = .ok (.invokevirtual 109, 3) ∧ decode cX11_strip 27 = .ok (.ifCond .ne 9, 3) ∧ decode cX11_strip 30 = .ok (.aload_n 0, 1) ∧ decode cX11_strip 31 = .ok (.iconst 1, 1) ∧ decode cX11_strip 32 = .ok (.invokevirtual 132, 3) ∧ decode cX11_strip 35 = .ok (.ireturn, 1) ∧ decode cX11_strip 36 = .ok (.aload_n 0, 1) ∧ decode cX11_strip 37 = .ok (.iload_n 3, 1) := by decide +kernel
theorem e_X11_strip_2 : decode cX11_strip 38 = .ok (.invokevirtual 424, 3) ∧ decode cX11_strip 41 = .ok (.istore 4, 2) ∧ decode cX11_strip 43 = .ok (.iload 4, 2) ∧ decode cX11_strip 45 = .ok (.ifCond .eq 10, 3) ∧ decode cX11_strip 48 = .ok (.aload_n 0, 1) ∧ decode cX11_strip 49 = .ok (.iload 4, 2) ∧ decode cX11_strip 51 = .ok (.invokevirtual 132, 3) ∧ decode cX11_strip 54 = .ok (.ireturn, 1) ∧ decode cX11_strip 55 = .ok (.aload_n 0, 1) ∧ decode cX11_strip 56 = .ok (.getfield 47, 3) := by decide +kernel
theorem e_X11_strip_3 : decode cX11_strip 59 = .ok (.aload_n 0, 1) ∧ decode cX11_strip 60 = .ok (.getfield 43, 3) ∧ decode cX11_strip 63 = .ok (.invokevirtual 167, 3) ∧ decode cX11_strip 66 = .ok (.aload_n 0, 1) ∧ decode cX11_strip 67 = .ok (.getfield 93, 3) ∧ decode cX11_strip 70 = .ok (.iload_n 2, 1) ∧ decode cX11_strip 71 = .ok (.invokevirtual 427, 3) ∧ decode cX11_strip 74 = .ok (.iconst 0, 1) ∧ decode cX11_strip 75 = .ok (.istore 5, 2) ∧ decode cX11_strip 77 = .ok (.iload 5, 2) := by decide +kernel
theorem e_X11_strip_4 : decode cX11_strip 79 = .ok (.aload_n 0, 1) ∧ decode cX11_strip 80 = .ok (.getfield 43, 3) ∧ decode cX11_strip 83 = .ok (.getfield 194, 3) ∧ decode cX11_strip 86 = .ok (.if_icmp .ge 33, 3) ∧ decode cX11_strip 89 = .ok (.aload_n 0, 1) ∧ decode cX11_strip 90 = .ok (.getfield 22, 3) ∧ decode cX11_strip 93 = .ok (.iload_n 3, 1) ∧ decode cX11_strip 94 = .ok (.aaload, 1) ∧ decode cX11_strip 95 = .ok (.iload 5, 2) ∧ decode cX11_strip 97 = .ok (.aload_n 0, 1) := by decide +kernel
theorem e_X11_strip_5 : decode cX11_strip 98 = .ok (.getfield 93, 3) ∧ decode cX11_strip 101 = .ok (.getfield 430, 3) ∧ decode cX11_strip 104 = .ok (.iload_n 1, 1) ∧ decode cX11_strip 105 = .ok (.aaload, 1) ∧ decode cX11_strip 106 = .ok (.iload 5, 2) ∧ decode cX11_strip 108 = .ok (.iaload, 1) ∧ decode cX11_strip 109 = .ok (.i2l, 1) ∧ decode cX11_strip 110 = .ok (.invokevirtual 128, 3) ∧ decode cX11_strip 113 = .ok (.iinc 5 1, 3) ∧ decode cX11_strip 116 = .ok (.goto (-39), 3) := by decide +kernel
theorem e_X11_strip_6 : decode cX11_strip 119 = .ok (.aload_n 0, 1) ∧ decode cX11_strip 120 = .ok (.aload_n 0, 1) ∧ decode cX11_strip 121 = .ok (.getfield 43, 3) ∧ decode cX11_strip 124 = .ok (.getfield 194, 3) ∧ decode cX11_strip 127 = .ok (.invokevirtual 176, 3) ∧ decode cX11_strip 130 = .ok (.ireturn, 1) := by decide +kernel
abbrev E_X11_strip_77 (G : Kg) (l1 l3 l5 : Int) (σ : Kmem) (Q : Int → Kmem → Prop) : Prop := Ex G WX M_X11_strip 5 0 0 77 [(0, vA G 0), (1, vI l1), (3, vI l3), (5, vI l5)] [] σ Q
theorem S_X11_strip {G : Kg} {σ : Kmem} {Q : Int → Kmem → Prop} {l1 l2 l3 : Int}  (h : Run G WX M_X0_hasKite 0 0 0 [vA G 5, vI l1] σ (fun r1 s2 => (rI r1) ∧ ((r1 = 0 → Run G WX M_X11_deny 0 0 0 [vA G 0, vI 1] s2 (fun r4 s5 => Q r4 s5)) ∧ (r1 ≠ 0 → Run G WX M_X0_hasRow 0 0 0 [vA G 5, vI l2] s2 (fun r6 s7 => (rI r6) ∧ ((r6 = 0 → Run G WX M_X11_deny 0 0 0 [vA G 0, vI 1] s7 (fun r9 s10 => Q r9 s10)) ∧ (r6 ≠ 0 → Run G WX M_X11_isTray 0 0 0 [vA G 0, vI l3] s7 (fun r11 s12 => (rI r11) ∧ ((r11 ≠ 0 → Run G WX M_X11_stripTrayStatus 0 0 0 [vA G 0, vI l3] s12 (fun r14 s15 => (rI r14) ∧ ((r14 = 0 → Run G WX M_X0_copy 1 0 0 [vA G 31, vA G 5] s15 (fun r17 s18 => Run G WX M_X5_countStrips 4 0 0 [vA G 82, vI l2] s18 (fun r19 s20 => E_X11_strip_77 G l1 l3 0 s20 Q))) ∧ (r14 ≠ 0 → Run G WX M_X11_deny 0 0 0 [vA G 0, vI r14] s15 (fun r21 s22 => Q r21 s22))))) ∧ (r11 = 0 → Run G WX M_X11_deny 0 0 0 [vA G 0, vI 1] s12 (fun r23 s24 => Q r23 s24))))))))))) : Run G WX M_X11_strip 5 0 0 [vA G 0, vI l1, vI l2, vI l3] σ Q := by
  refine Run.of (by decide +kernel) (by show (4 : Nat) ≤ 6; decide) ?_
  show Ex G WX M_X11_strip 5 0 0 0 [(0, vA G 0), (1, vI l1), (2, vI l2), (3, vI l3)] [] σ Q
  refine R_aload_n e_X11_strip_0.1 0 rfl ?_
  refine R_getA 11 7 5 e_X11_strip_0.2.1 f_X11_43 kx_0 (fun _ _ => rfl) rx_0_7 (by decide) ?_
  refine R_iload_n e_X11_strip_0.2.2.1 1 rfl ?_
  refine R_callV (mc := 0) (ms := 0) (mc' := 0) (ms' := 0) (M' := M_X0_hasKite) (d' := 0) (as := [vI l1]) (st := []) 0 1 e_X11_strip_0.2.2.2.1 (kCVof m_X0_hasKite l_X11_238) rfl (by decide) (kC_self isC_5) (by decide) (by decide) rfl rfl (by show (0 : Nat) ≤ 8; decide) ?_
  refine Run.mono h (fun r1 s2 h => ?_)
  refine R_eqs (st2 := [vI r1]) rfl rfl ?_
  obtain ⟨q3, h⟩ := h
  refine R_if_eq 30 e_X11_strip_0.2.2.2.2.1 (by decide) q3  (fun q => ?_) (fun q => ?_)
  · replace h := h.1 q
    refine R_aload_n e_X11_strip_1.2.2.2.2.1 0 rfl ?_
    refine R_iconst e_X11_strip_1.2.2.2.2.2.1 ?_
    refine R_callV (mc := 0) (ms := 0) (mc' := 0) (ms' := 0) (M' := M_X11_deny) (d' := 0) (as := [vI 1]) (st := []) 11 1 e_X11_strip_1.2.2.2.2.2.2.1 (kCVof m_X11_deny l_X11_132) rfl (by decide) kx_0 (by decide) (by decide) rfl rfl (by show (0 : Nat) ≤ 8; decide) ?_
    refine Run.mono h (fun r4 s5 h => ?_)
    refine R_eqs (st2 := [vI r4]) rfl rfl ?_
    exact R_ireturn e_X11_strip_1.2.2.2.2.2.2.2.1 rfl h
  · replace h := h.2 q
    refine R_aload_n e_X11_strip_0.2.2.2.2.2.1 0 rfl ?_
    refine R_getA 11 7 5 e_X11_strip_0.2.2.2.2.2.2.1 f_X11_43 kx_0 (fun _ _ => rfl) rx_0_7 (by decide) ?_
    refine R_iload_n e_X11_strip_0.2.2.2.2.2.2.2.1 2 rfl ?_
    refine R_callV (mc := 0) (ms := 0) (mc' := 0) (ms' := 0) (M' := M_X0_hasRow) (d' := 0) (as := [vI l2]) (st := []) 0 1 e_X11_strip_0.2.2.2.2.2.2.2.2.1 (kCVof m_X0_hasRow l_X11_421) rfl (by decide) (kC_self isC_5) (by decide) (by decide) rfl rfl (by show (0 : Nat) ≤ 8; decide) ?_
    refine Run.mono h (fun r6 s7 h => ?_)
    refine R_eqs (st2 := [vI r6]) rfl rfl ?_
    obtain ⟨q8, h⟩ := h
    refine R_if_eq 30 e_X11_strip_0.2.2.2.2.2.2.2.2.2 (by decide) q8  (fun q => ?_) (fun q => ?_)
    · replace h := h.1 q
      refine R_aload_n e_X11_strip_1.2.2.2.2.1 0 rfl ?_
      refine R_iconst e_X11_strip_1.2.2.2.2.2.1 ?_
      refine R_callV (mc := 0) (ms := 0) (mc' := 0) (ms' := 0) (M' := M_X11_deny) (d' := 0) (as := [vI 1]) (st := []) 11 1 e_X11_strip_1.2.2.2.2.2.2.1 (kCVof m_X11_deny l_X11_132) rfl (by decide) kx_0 (by decide) (by decide) rfl rfl (by show (0 : Nat) ≤ 8; decide) ?_
      refine Run.mono h (fun r9 s10 h => ?_)
      refine R_eqs (st2 := [vI r9]) rfl rfl ?_
      exact R_ireturn e_X11_strip_1.2.2.2.2.2.2.2.1 rfl h
    · replace h := h.2 q
      refine R_aload_n e_X11_strip_1.1 0 rfl ?_
      refine R_iload_n e_X11_strip_1.2.1 3 rfl ?_
      refine R_callV (mc := 0) (ms := 0) (mc' := 0) (ms' := 0) (M' := M_X11_isTray) (d' := 0) (as := [vI l3]) (st := []) 11 1 e_X11_strip_1.2.2.1 (kCVof m_X11_isTray l_X11_109) rfl (by decide) kx_0 (by decide) (by decide) rfl rfl (by show (0 : Nat) ≤ 8; decide) ?_
      refine Run.mono h (fun r11 s12 h => ?_)
      refine R_eqs (st2 := [vI r11]) rfl rfl ?_
      obtain ⟨q13, h⟩ := h
      refine R_if_ne 36 e_X11_strip_1.2.2.2.1 (by decide) q13  (fun q => ?_) (fun q => ?_)
      · replace h := h.1 q
        refine R_aload_n e_X11_strip_1.2.2.2.2.2.2.2.2.1 0 rfl ?_
        refine R_iload_n e_X11_strip_1.2.2.2.2.2.2.2.2.2 3 rfl ?_
        refine R_callV (mc := 0) (ms := 0) (mc' := 0) (ms' := 0) (M' := M_X11_stripTrayStatus) (d' := 0) (as := [vI l3]) (st := []) 11 1 e_X11_strip_2.1 (kCVof m_X11_stripTrayStatus l_X11_424) rfl (by decide) kx_0 (by decide) (by decide) rfl rfl (by show (0 : Nat) ≤ 8; decide) ?_
        refine Run.mono h (fun r14 s15 h => ?_)
        refine R_eqs (st2 := [vI r14]) rfl rfl ?_
        refine R_istore (ls2 := [(4, vI r14), (0, vA G 0), (1, vI l1), (2, vI l2), (3, vI l3)]) e_X11_strip_2.2.1 (by decide) rfl ?_
        refine R_iload e_X11_strip_2.2.2.1 0 rfl ?_
        obtain ⟨q16, h⟩ := h
        refine R_if_eq 55 e_X11_strip_2.2.2.2.1 (by decide) q16  (fun q => ?_) (fun q => ?_)
        · replace h := h.1 q
          refine R_aload_n e_X11_strip_2.2.2.2.2.2.2.2.2.1 1 rfl ?_
          refine R_getA 11 8 31 e_X11_strip_2.2.2.2.2.2.2.2.2.2 f_X11_47 kx_0 (fun _ _ => rfl) rx_0_8 (by decide) ?_
          refine R_aload_n e_X11_strip_3.1 1 rfl ?_
          refine R_getA 11 7 5 e_X11_strip_3.2.1 f_X11_43 kx_0 (fun _ _ => rfl) rx_0_7 (by decide) ?_
          refine R_callV (mc := 0) (ms := 0) (mc' := 0) (ms' := 0) (M' := M_X0_copy) (d' := 1) (as := [vA G 5]) (st := []) 0 1 e_X11_strip_3.2.2.1 (kCVof m_X0_copy l_X11_167) rfl (by decide) (kC_self isC_31) (by decide) (by decide) rfl rfl (by show (0 : Nat) ≤ 8; decide) ?_
          refine Run.mono h (fun r17 s18 h => ?_)
          refine R_eqs (st2 := []) rfl rfl ?_
          refine R_aload_n e_X11_strip_3.2.2.2.1 1 rfl ?_
          refine R_getA 11 15 82 e_X11_strip_3.2.2.2.2.1 f_X11_93 kx_0 (fun _ _ => rfl) rx_0_15 (by decide) ?_
          refine R_iload_n e_X11_strip_3.2.2.2.2.2.1 3 rfl ?_
          refine R_callV (mc := 0) (ms := 0) (mc' := 0) (ms' := 0) (M' := M_X5_countStrips) (d' := 4) (as := [vI l2]) (st := []) 5 1 e_X11_strip_3.2.2.2.2.2.2.1 (kCVof m_X5_countStrips l_X11_427) rfl (by decide) kx_82 (by decide) (by decide) rfl rfl (by show (0 : Nat) ≤ 8; decide) ?_
          refine Run.mono h (fun r19 s20 h => ?_)
          refine R_eqs (st2 := []) rfl rfl ?_
          refine R_iconst e_X11_strip_3.2.2.2.2.2.2.2.1 ?_
          refine R_istore (ls2 := [(5, vI 0), (4, vI r14), (0, vA G 0), (1, vI l1), (2, vI l2), (3, vI l3)]) e_X11_strip_3.2.2.2.2.2.2.2.2.1 (by decide) rfl ?_
          refine R_ls (ls2 := [(0, vA G 0), (1, vI l1), (3, vI l3), (5, vI 0)]) [2, 3, 5, 0] rfl ?_
          exact h
        · replace h := h.2 q
          refine R_aload_n e_X11_strip_2.2.2.2.2.1 1 rfl ?_
          refine R_iload e_X11_strip_2.2.2.2.2.2.1 0 rfl ?_
          refine R_callV (mc := 0) (ms := 0) (mc' := 0) (ms' := 0) (M' := M_X11_deny) (d' := 0) (as := [vI r14]) (st := []) 11 1 e_X11_strip_2.2.2.2.2.2.2.1 (kCVof m_X11_deny l_X11_132) rfl (by decide) kx_0 (by decide) (by decide) rfl rfl (by show (0 : Nat) ≤ 8; decide) ?_
          refine Run.mono h (fun r21 s22 h => ?_)
          refine R_eqs (st2 := [vI r21]) rfl rfl ?_
          exact R_ireturn e_X11_strip_2.2.2.2.2.2.2.2.1 rfl h
      · replace h := h.2 q
        refine R_aload_n e_X11_strip_1.2.2.2.2.1 0 rfl ?_
        refine R_iconst e_X11_strip_1.2.2.2.2.2.1 ?_
        refine R_callV (mc := 0) (ms := 0) (mc' := 0) (ms' := 0) (M' := M_X11_deny) (d' := 0) (as := [vI 1]) (st := []) 11 1 e_X11_strip_1.2.2.2.2.2.2.1 (kCVof m_X11_deny l_X11_132) rfl (by decide) kx_0 (by decide) (by decide) rfl rfl (by show (0 : Nat) ≤ 8; decide) ?_
        refine Run.mono h (fun r23 s24 h => ?_)
        refine R_eqs (st2 := [vI r23]) rfl rfl ?_
        exact R_ireturn e_X11_strip_1.2.2.2.2.2.2.2.1 rfl h
theorem S_X11_strip_77 {G : Kg} {σ : Kmem} {Q : Int → Kmem → Prop} {l1 l2 l3 l5 : Int}  (h : (rI l5) ∧ (rI (σ 5 0)) ∧ ((σ 5 0 ≤ l5 → Run G WX M_X11_give 0 0 0 [vA G 0, vI (σ 5 0)] σ (fun r27 s28 => Q r27 s28)) ∧ (l5 < σ 5 0 → (0 ≤ l3 ∧ l3 < 4) ∧ (0 ≤ l1 ∧ l1 < 6) ∧ (0 ≤ l5 ∧ l5 < 9) ∧ (rI (σ (90 + l1) l5)) ∧ Run G WX M_X10_put 0 0 0 [vA G (adT l3), vI l5, vL (σ (90 + l1) l5)] σ (fun r33 s34 => E_X11_strip_77 G l1 l3 (l5 + 1) s34 Q)))) : E_X11_strip_77 G l1 l3 l5 σ Q := by
  refine R_iload e_X11_strip_3.2.2.2.2.2.2.2.2.2 3 rfl ?_
  refine R_aload_n e_X11_strip_4.1 0 rfl ?_
  refine R_getA 11 7 5 e_X11_strip_4.2.1 f_X11_43 kx_0 (fun _ _ => rfl) rx_0_7 (by decide) ?_
  refine R_getI 0 0 0 e_X11_strip_4.2.2.1 f_X11_194 (kC_self isC_5) (fun _ _ => rfl) rfl ?_
  obtain ⟨q25, h⟩ := h
  obtain ⟨q26, h⟩ := h
  refine R_icmp_ge 119 e_X11_strip_4.2.2.2.1 (by decide) q25 q26 (fun q => ?_) (fun q => ?_)
  · replace h := h.1 q
    refine R_aload_n e_X11_strip_6.1 0 rfl ?_
    refine R_aload_n e_X11_strip_6.2.1 0 rfl ?_
    refine R_getA 11 7 5 e_X11_strip_6.2.2.1 f_X11_43 kx_0 (fun _ _ => rfl) rx_0_7 (by decide) ?_
    refine R_getI 0 0 0 e_X11_strip_6.2.2.2.1 f_X11_194 (kC_self isC_5) (fun _ _ => rfl) rfl ?_
    refine R_callV (mc := 0) (ms := 0) (mc' := 0) (ms' := 0) (M' := M_X11_give) (d' := 0) (as := [vI (σ 5 0)]) (st := []) 11 1 e_X11_strip_6.2.2.2.2.1 (kCVof m_X11_give l_X11_176) rfl (by decide) kx_0 (by decide) (by decide) rfl rfl (by show (0 : Nat) ≤ 8; decide) ?_
    refine Run.mono h (fun r27 s28 h => ?_)
    refine R_eqs (st2 := [vI r27]) rfl rfl ?_
    exact R_ireturn e_X11_strip_6.2.2.2.2.2 rfl h
  · replace h := h.2 q
    refine R_aload_n e_X11_strip_4.2.2.2.2.1 0 rfl ?_
    refine R_getA 11 3 1 e_X11_strip_4.2.2.2.2.2.1 f_X11_22 kx_0 (fun _ _ => rfl) rx_0_3 (by decide) ?_
    refine R_iload_n e_X11_strip_4.2.2.2.2.2.2.1 2 rfl ?_
    obtain ⟨q29, h⟩ := h
    refine R_aald 24 4 (adT l3) e_X11_strip_4.2.2.2.2.2.2.2.1 (by decide) kxa_1 q29 (adT_at q29) (adT_n q29) ?_
    refine R_iload e_X11_strip_4.2.2.2.2.2.2.2.2.1 3 rfl ?_
    refine R_aload_n e_X11_strip_4.2.2.2.2.2.2.2.2.2 0 rfl ?_
    refine R_getA 11 15 82 e_X11_strip_5.1 f_X11_93 kx_0 (fun _ _ => rfl) rx_0_15 (by decide) ?_
    refine R_getA 5 17 89 e_X11_strip_5.2.1 f_X11_430 kx_82 (fun _ _ => rfl) rx_82_17 (by decide) ?_
    refine R_iload_n e_X11_strip_5.2.2.1 1 rfl ?_
    obtain ⟨q30, h⟩ := h
    refine R_aald2 6 (90 + l1) e_X11_strip_5.2.2.2.1 kxa_89 q30 (adP_at q30) (adP_n q30) ?_
    refine R_iload e_X11_strip_5.2.2.2.2.1 3 rfl ?_
    obtain ⟨q31, h⟩ := h
    refine R_iald 9 e_X11_strip_5.2.2.2.2.2.1 (adP_ar q30) q31 ?_
    obtain ⟨q32, h⟩ := h
    refine R_i2l e_X11_strip_5.2.2.2.2.2.2.1 q32 ?_
    refine R_callV (mc := 0) (ms := 0) (mc' := 0) (ms' := 0) (M' := M_X10_put) (d' := 0) (as := [vI l5, vL (σ (90 + l1) l5)]) (st := []) 10 2 e_X11_strip_5.2.2.2.2.2.2.2.1 (kCVof m_X10_put l_X11_128) rfl (by decide) (kT_self (adT_is q29)) (by decide) (by decide) rfl rfl (by show (0 : Nat) ≤ 8; decide) ?_
    refine Run.mono h (fun r33 s34 h => ?_)
    refine R_eqs (st2 := []) rfl rfl ?_
    refine R_iinc (ls2 := [(5, vI (l5 + 1)), (0, vA G 0), (1, vI l1), (3, vI l3)]) e_X11_strip_5.2.2.2.2.2.2.2.2.1 3 rfl (by decide) rfl ?_
    refine R_goto 77 e_X11_strip_5.2.2.2.2.2.2.2.2.2 (by decide) ?_
    refine R_ls (ls2 := [(0, vA G 0), (1, vI l1), (3, vI l3), (5, vI (l5 + 1))]) [1, 2, 3, 0] rfl ?_
    exact h
/-! KiteLand.suspects(II)I -/
theorem e_X11_suspects_0 : decode cX11_suspects 0 = .ok (.aload_n 0, 1) ∧ decode cX11_suspects 1 = .ok (.getfield 43, 3) ∧ decode cX11_suspects 4 = .ok (.iload_n 1, 1) ∧ decode cX11_suspects 5 = .ok (.invokevirtual 421, 3) ∧ decode cX11_suspects 8 = .ok (.ifCond .eq 11, 3) ∧ decode cX11_suspects 11 = .ok (.aload_n 0, 1) ∧ decode cX11_suspects 12 = .ok (.iload_n 2, 1) ∧ decode cX11_suspects 13 = .ok (.invokevirtual 109, 3) ∧ decode cX11_suspects 16 = .ok (.ifCond .ne 9, 3) ∧ decode cX11_suspects 19 = .ok (.aload_n 0, 1) := by decide +kernel
theorem e_X11_suspects_1 : decode cX11_suspects 20 = .ok (.iconst 1, 1) ∧ decode cX11_suspects 21 = .ok (.invokevirtual 132, 3) ∧ decode cX11_suspects 24 = .ok (.ireturn, 1) ∧ decode cX11_suspects 25 = .ok (.aload_n 0, 1) ∧ decode cX11_suspects 26 = .ok (.iload_n 2, 1) ∧ decode cX11_suspects 27 = .ok (.invokevirtual 424, 3) ∧ decode cX11_suspects 30 = .ok (.istore_n 3, 1) ∧ decode cX11_suspects 31 = .ok (.iload_n 3, 1) ∧ decode cX11_suspects 32 = .ok (.ifCond .eq 9, 3) ∧ decode cX11_suspects 35 = .ok (.aload_n 0, 1) := by decide +kernel
theorem e_X11_suspects_2 : decode cX11_suspects 36 = .ok (.iload_n 3, 1) ∧ decode cX11_suspects 37 = .ok (.invokevirtual 132, 3) ∧ decode cX11_suspects 40 = .ok (.ireturn, 1) ∧ decode cX11_suspects 41 = .ok (.aload_n 0, 1) ∧ decode cX11_suspects 42 = .ok (.getfield 47, 3) ∧ decode cX11_suspects 45 = .ok (.aload_n 0, 1) ∧ decode cX11_suspects 46 = .ok (.getfield 43, 3) ∧ decode cX11_suspects 49 = .ok (.invokevirtual 167, 3) ∧ decode cX11_suspects 52 = .ok (.aload_n 0, 1) ∧ decode cX11_suspects 53 = .ok (.getfield 93, 3) := by decide +kernel
theorem e_X11_suspects_3 : decode cX11_suspects 56 = .ok (.iload_n 1, 1) ∧ decode cX11_suspects 57 = .ok (.invokevirtual 427, 3) ∧ decode cX11_suspects 60 = .ok (.iconst 0, 1) ∧ decode cX11_suspects 61 = .ok (.istore 4, 2) ∧ decode cX11_suspects 63 = .ok (.iconst 0, 1) ∧ decode cX11_suspects 64 = .ok (.istore 5, 2) ∧ decode cX11_suspects 66 = .ok (.iload 5, 2) ∧ decode cX11_suspects 68 = .ok (.aload_n 0, 1) ∧ decode cX11_suspects 69 = .ok (.getfield 43, 3) ∧ decode cX11_suspects 72 = .ok (.getfield 173, 3) := by decide +kernel
theorem e_X11_suspects_4 : decode cX11_suspects 75 = .ok (.if_icmp .ge 39, 3) ∧ decode cX11_suspects 78 = .ok (.aload_n 0, 1) ∧ decode cX11_suspects 79 = .ok (.getfield 93, 3) ∧ decode cX11_suspects 82 = .ok (.iload 5, 2) ∧ decode cX11_suspects 84 = .ok (.aload_n 0, 1) ∧ decode cX11_suspects 85 = .ok (.getfield 22, 3) ∧ decode cX11_suspects 88 = .ok (.iload_n 2, 1) ∧ decode cX11_suspects 89 = .ok (.aaload, 1) ∧ decode cX11_suspects 90 = .ok (.getfield 136, 3) ∧ decode cX11_suspects 93 = .ok (.invokevirtual 434, 3) := by decide +kernel
theorem e_X11_suspects_5 : decode cX11_suspects 96 = .ok (.ifCond .eq 12, 3) ∧ decode cX11_suspects 99 = .ok (.iload 4, 2) ∧ decode cX11_suspects 101 = .ok (.iconst 1, 1) ∧ decode cX11_suspects 102 = .ok (.iload 5, 2) ∧ decode cX11_suspects 104 = .ok (.ishl, 1) ∧ decode cX11_suspects 105 = .ok (.ior, 1) ∧ decode cX11_suspects 106 = .ok (.istore 4, 2) ∧ decode cX11_suspects 108 = .ok (.iinc 5 1, 3) ∧ decode cX11_suspects 111 = .ok (.goto (-45), 3) ∧ decode cX11_suspects 114 = .ok (.aload_n 0, 1) := by decide +kernel
theorem e_X11_suspects_6 : decode cX11_suspects 115 = .ok (.iload 4, 2) ∧ decode cX11_suspects 117 = .ok (.invokevirtual 176, 3) ∧ decode cX11_suspects 120 = .ok (.ireturn, 1) := by decide +kernel
abbrev E_X11_suspects_66 (G : Kg) (l2 l4 l5 : Int) (σ : Kmem) (Q : Int → Kmem → Prop) : Prop := Ex G WX M_X11_suspects 5 0 0 66 [(0, vA G 0), (2, vI l2), (4, vI l4), (5, vI l5)] [] σ Q
theorem S_X11_suspects {G : Kg} {σ : Kmem} {Q : Int → Kmem → Prop} {l1 l2 : Int}  (h : Run G WX M_X0_hasRow 0 0 0 [vA G 5, vI l1] σ (fun r1 s2 => (rI r1) ∧ ((r1 = 0 → Run G WX M_X11_deny 0 0 0 [vA G 0, vI 1] s2 (fun r4 s5 => Q r4 s5)) ∧ (r1 ≠ 0 → Run G WX M_X11_isTray 0 0 0 [vA G 0, vI l2] s2 (fun r6 s7 => (rI r6) ∧ ((r6 ≠ 0 → Run G WX M_X11_stripTrayStatus 0 0 0 [vA G 0, vI l2] s7 (fun r9 s10 => (rI r9) ∧ ((r9 = 0 → Run G WX M_X0_copy 1 0 0 [vA G 31, vA G 5] s10 (fun r12 s13 => Run G WX M_X5_countStrips 4 0 0 [vA G 82, vI l1] s13 (fun r14 s15 => E_X11_suspects_66 G l2 0 0 s15 Q))) ∧ (r9 ≠ 0 → Run G WX M_X11_deny 0 0 0 [vA G 0, vI r9] s10 (fun r16 s17 => Q r16 s17))))) ∧ (r6 = 0 → Run G WX M_X11_deny 0 0 0 [vA G 0, vI 1] s7 (fun r18 s19 => Q r18 s19)))))))) : Run G WX M_X11_suspects 5 0 0 [vA G 0, vI l1, vI l2] σ Q := by
  refine Run.of (by decide +kernel) (by show (3 : Nat) ≤ 6; decide) ?_
  show Ex G WX M_X11_suspects 5 0 0 0 [(0, vA G 0), (1, vI l1), (2, vI l2)] [] σ Q
  refine R_aload_n e_X11_suspects_0.1 0 rfl ?_
  refine R_getA 11 7 5 e_X11_suspects_0.2.1 f_X11_43 kx_0 (fun _ _ => rfl) rx_0_7 (by decide) ?_
  refine R_iload_n e_X11_suspects_0.2.2.1 1 rfl ?_
  refine R_callV (mc := 0) (ms := 0) (mc' := 0) (ms' := 0) (M' := M_X0_hasRow) (d' := 0) (as := [vI l1]) (st := []) 0 1 e_X11_suspects_0.2.2.2.1 (kCVof m_X0_hasRow l_X11_421) rfl (by decide) (kC_self isC_5) (by decide) (by decide) rfl rfl (by show (0 : Nat) ≤ 8; decide) ?_
  refine Run.mono h (fun r1 s2 h => ?_)
  refine R_eqs (st2 := [vI r1]) rfl rfl ?_
  obtain ⟨q3, h⟩ := h
  refine R_if_eq 19 e_X11_suspects_0.2.2.2.2.1 (by decide) q3  (fun q => ?_) (fun q => ?_)
  · replace h := h.1 q
    refine R_aload_n e_X11_suspects_0.2.2.2.2.2.2.2.2.2 0 rfl ?_
    refine R_iconst e_X11_suspects_1.1 ?_
    refine R_callV (mc := 0) (ms := 0) (mc' := 0) (ms' := 0) (M' := M_X11_deny) (d' := 0) (as := [vI 1]) (st := []) 11 1 e_X11_suspects_1.2.1 (kCVof m_X11_deny l_X11_132) rfl (by decide) kx_0 (by decide) (by decide) rfl rfl (by show (0 : Nat) ≤ 8; decide) ?_
    refine Run.mono h (fun r4 s5 h => ?_)
    refine R_eqs (st2 := [vI r4]) rfl rfl ?_
    exact R_ireturn e_X11_suspects_1.2.2.1 rfl h
  · replace h := h.2 q
    refine R_aload_n e_X11_suspects_0.2.2.2.2.2.1 0 rfl ?_
    refine R_iload_n e_X11_suspects_0.2.2.2.2.2.2.1 2 rfl ?_
    refine R_callV (mc := 0) (ms := 0) (mc' := 0) (ms' := 0) (M' := M_X11_isTray) (d' := 0) (as := [vI l2]) (st := []) 11 1 e_X11_suspects_0.2.2.2.2.2.2.2.1 (kCVof m_X11_isTray l_X11_109) rfl (by decide) kx_0 (by decide) (by decide) rfl rfl (by show (0 : Nat) ≤ 8; decide) ?_
    refine Run.mono h (fun r6 s7 h => ?_)
    refine R_eqs (st2 := [vI r6]) rfl rfl ?_
    obtain ⟨q8, h⟩ := h
    refine R_if_ne 25 e_X11_suspects_0.2.2.2.2.2.2.2.2.1 (by decide) q8  (fun q => ?_) (fun q => ?_)
    · replace h := h.1 q
      refine R_aload_n e_X11_suspects_1.2.2.2.1 0 rfl ?_
      refine R_iload_n e_X11_suspects_1.2.2.2.2.1 2 rfl ?_
      refine R_callV (mc := 0) (ms := 0) (mc' := 0) (ms' := 0) (M' := M_X11_stripTrayStatus) (d' := 0) (as := [vI l2]) (st := []) 11 1 e_X11_suspects_1.2.2.2.2.2.1 (kCVof m_X11_stripTrayStatus l_X11_424) rfl (by decide) kx_0 (by decide) (by decide) rfl rfl (by show (0 : Nat) ≤ 8; decide) ?_
      refine Run.mono h (fun r9 s10 h => ?_)
      refine R_eqs (st2 := [vI r9]) rfl rfl ?_
      refine R_istore_n (ls2 := [(3, vI r9), (0, vA G 0), (1, vI l1), (2, vI l2)]) e_X11_suspects_1.2.2.2.2.2.2.1 (by decide) rfl ?_
      refine R_iload_n e_X11_suspects_1.2.2.2.2.2.2.2.1 0 rfl ?_
      obtain ⟨q11, h⟩ := h
      refine R_if_eq 41 e_X11_suspects_1.2.2.2.2.2.2.2.2.1 (by decide) q11  (fun q => ?_) (fun q => ?_)
      · replace h := h.1 q
        refine R_aload_n e_X11_suspects_2.2.2.2.1 1 rfl ?_
        refine R_getA 11 8 31 e_X11_suspects_2.2.2.2.2.1 f_X11_47 kx_0 (fun _ _ => rfl) rx_0_8 (by decide) ?_
        refine R_aload_n e_X11_suspects_2.2.2.2.2.2.1 1 rfl ?_
        refine R_getA 11 7 5 e_X11_suspects_2.2.2.2.2.2.2.1 f_X11_43 kx_0 (fun _ _ => rfl) rx_0_7 (by decide) ?_
        refine R_callV (mc := 0) (ms := 0) (mc' := 0) (ms' := 0) (M' := M_X0_copy) (d' := 1) (as := [vA G 5]) (st := []) 0 1 e_X11_suspects_2.2.2.2.2.2.2.2.1 (kCVof m_X0_copy l_X11_167) rfl (by decide) (kC_self isC_31) (by decide) (by decide) rfl rfl (by show (0 : Nat) ≤ 8; decide) ?_
        refine Run.mono h (fun r12 s13 h => ?_)
        refine R_eqs (st2 := []) rfl rfl ?_
        refine R_aload_n e_X11_suspects_2.2.2.2.2.2.2.2.2.1 1 rfl ?_
        refine R_getA 11 15 82 e_X11_suspects_2.2.2.2.2.2.2.2.2.2 f_X11_93 kx_0 (fun _ _ => rfl) rx_0_15 (by decide) ?_
        refine R_iload_n e_X11_suspects_3.1 2 rfl ?_
        refine R_callV (mc := 0) (ms := 0) (mc' := 0) (ms' := 0) (M' := M_X5_countStrips) (d' := 4) (as := [vI l1]) (st := []) 5 1 e_X11_suspects_3.2.1 (kCVof m_X5_countStrips l_X11_427) rfl (by decide) kx_82 (by decide) (by decide) rfl rfl (by show (0 : Nat) ≤ 8; decide) ?_
        refine Run.mono h (fun r14 s15 h => ?_)
        refine R_eqs (st2 := []) rfl rfl ?_
        refine R_iconst e_X11_suspects_3.2.2.1 ?_
        refine R_istore (ls2 := [(4, vI 0), (3, vI r9), (0, vA G 0), (1, vI l1), (2, vI l2)]) e_X11_suspects_3.2.2.2.1 (by decide) rfl ?_
        refine R_iconst e_X11_suspects_3.2.2.2.2.1 ?_
        refine R_istore (ls2 := [(5, vI 0), (4, vI 0), (3, vI r9), (0, vA G 0), (1, vI l1), (2, vI l2)]) e_X11_suspects_3.2.2.2.2.2.1 (by decide) rfl ?_
        refine R_ls (ls2 := [(0, vA G 0), (2, vI l2), (4, vI 0), (5, vI 0)]) [3, 5, 1, 0] rfl ?_
        exact h
      · replace h := h.2 q
        refine R_aload_n e_X11_suspects_1.2.2.2.2.2.2.2.2.2 1 rfl ?_
        refine R_iload_n e_X11_suspects_2.1 0 rfl ?_
        refine R_callV (mc := 0) (ms := 0) (mc' := 0) (ms' := 0) (M' := M_X11_deny) (d' := 0) (as := [vI r9]) (st := []) 11 1 e_X11_suspects_2.2.1 (kCVof m_X11_deny l_X11_132) rfl (by decide) kx_0 (by decide) (by decide) rfl rfl (by show (0 : Nat) ≤ 8; decide) ?_
        refine Run.mono h (fun r16 s17 h => ?_)
        refine R_eqs (st2 := [vI r16]) rfl rfl ?_
        exact R_ireturn e_X11_suspects_2.2.2.1 rfl h
    · replace h := h.2 q
      refine R_aload_n e_X11_suspects_0.2.2.2.2.2.2.2.2.2 0 rfl ?_
      refine R_iconst e_X11_suspects_1.1 ?_
      refine R_callV (mc := 0) (ms := 0) (mc' := 0) (ms' := 0) (M' := M_X11_deny) (d' := 0) (as := [vI 1]) (st := []) 11 1 e_X11_suspects_1.2.1 (kCVof m_X11_deny l_X11_132) rfl (by decide) kx_0 (by decide) (by decide) rfl rfl (by show (0 : Nat) ≤ 8; decide) ?_
      refine Run.mono h (fun r18 s19 h => ?_)
      refine R_eqs (st2 := [vI r18]) rfl rfl ?_
      exact R_ireturn e_X11_suspects_1.2.2.1 rfl h
theorem S_X11_suspects_66 {G : Kg} {σ : Kmem} {Q : Int → Kmem → Prop} {l1 l2 l4 l5 : Int}  (h : (rI l5) ∧ (rI (σ 5 5)) ∧ ((σ 5 5 ≤ l5 → Run G WX M_X11_give 0 0 0 [vA G 0, vI l4] σ (fun r22 s23 => Q r22 s23)) ∧ (l5 < σ 5 5 → (0 ≤ l2 ∧ l2 < 4) ∧ Run G WX M_X5_isStrip 0 0 0 [vA G 82, vI l5, vA G (adT l2 + 1)] σ (fun r25 s26 => (rI r25) ∧ ((r25 = 0 → E_X11_suspects_66 G l2 l4 (l5 + 1) s26 Q) ∧ (r25 ≠ 0 → E_X11_suspects_66 G l2 (kor l4 (kshl 1 l5)) (l5 + 1) s26 Q)))))) : E_X11_suspects_66 G l2 l4 l5 σ Q := by
  refine R_iload e_X11_suspects_3.2.2.2.2.2.2.1 3 rfl ?_
  refine R_aload_n e_X11_suspects_3.2.2.2.2.2.2.2.1 0 rfl ?_
  refine R_getA 11 7 5 e_X11_suspects_3.2.2.2.2.2.2.2.2.1 f_X11_43 kx_0 (fun _ _ => rfl) rx_0_7 (by decide) ?_
  refine R_getI 0 5 5 e_X11_suspects_3.2.2.2.2.2.2.2.2.2 f_X11_173 (kC_self isC_5) (fun _ _ => rfl) rfl ?_
  obtain ⟨q20, h⟩ := h
  obtain ⟨q21, h⟩ := h
  refine R_icmp_ge 114 e_X11_suspects_4.1 (by decide) q20 q21 (fun q => ?_) (fun q => ?_)
  · replace h := h.1 q
    refine R_aload_n e_X11_suspects_5.2.2.2.2.2.2.2.2.2 0 rfl ?_
    refine R_iload e_X11_suspects_6.1 2 rfl ?_
    refine R_callV (mc := 0) (ms := 0) (mc' := 0) (ms' := 0) (M' := M_X11_give) (d' := 0) (as := [vI l4]) (st := []) 11 1 e_X11_suspects_6.2.1 (kCVof m_X11_give l_X11_176) rfl (by decide) kx_0 (by decide) (by decide) rfl rfl (by show (0 : Nat) ≤ 8; decide) ?_
    refine Run.mono h (fun r22 s23 h => ?_)
    refine R_eqs (st2 := [vI r22]) rfl rfl ?_
    exact R_ireturn e_X11_suspects_6.2.2 rfl h
  · replace h := h.2 q
    refine R_aload_n e_X11_suspects_4.2.1 0 rfl ?_
    refine R_getA 11 15 82 e_X11_suspects_4.2.2.1 f_X11_93 kx_0 (fun _ _ => rfl) rx_0_15 (by decide) ?_
    refine R_iload e_X11_suspects_4.2.2.2.1 3 rfl ?_
    refine R_aload_n e_X11_suspects_4.2.2.2.2.1 0 rfl ?_
    refine R_getA 11 3 1 e_X11_suspects_4.2.2.2.2.2.1 f_X11_22 kx_0 (fun _ _ => rfl) rx_0_3 (by decide) ?_
    refine R_iload_n e_X11_suspects_4.2.2.2.2.2.2.1 1 rfl ?_
    obtain ⟨q24, h⟩ := h
    refine R_aald 24 4 (adT l2) e_X11_suspects_4.2.2.2.2.2.2.2.1 (by decide) kxa_1 q24 (adT_at q24) (adT_n q24) ?_
    refine R_getA 10 3 (adT l2 + 1) e_X11_suspects_4.2.2.2.2.2.2.2.2.1 f_X11_136 (kT_self (adT_is q24)) (fun _ _ => rfl) (kT_r3 (adT_is q24)) (kT_n1 (adT_is q24)) ?_
    refine R_callV (mc := 0) (ms := 0) (mc' := 0) (ms' := 0) (M' := M_X5_isStrip) (d' := 0) (as := [vI l5, vA G (adT l2 + 1)]) (st := []) 5 2 e_X11_suspects_4.2.2.2.2.2.2.2.2.2 (kCVof m_X5_isStrip l_X11_434) rfl (by decide) kx_82 (by decide) (by decide) rfl rfl (by show (0 : Nat) ≤ 8; decide) ?_
    refine Run.mono h (fun r25 s26 h => ?_)
    refine R_eqs (st2 := [vI r25]) rfl rfl ?_
    obtain ⟨q27, h⟩ := h
    refine R_if_eq 108 e_X11_suspects_5.1 (by decide) q27  (fun q => ?_) (fun q => ?_)
    · replace h := h.1 q
      refine R_iinc (ls2 := [(5, vI (l5 + 1)), (0, vA G 0), (2, vI l2), (4, vI l4)]) e_X11_suspects_5.2.2.2.2.2.2.2.1 3 rfl (by decide) rfl ?_
      refine R_goto 66 e_X11_suspects_5.2.2.2.2.2.2.2.2.1 (by decide) ?_
      refine R_ls (ls2 := [(0, vA G 0), (2, vI l2), (4, vI l4), (5, vI (l5 + 1))]) [1, 2, 3, 0] rfl ?_
      exact h
    · replace h := h.2 q
      refine R_iload e_X11_suspects_5.2.1 2 rfl ?_
      refine R_iconst e_X11_suspects_5.2.2.1 ?_
      refine R_iload e_X11_suspects_5.2.2.2.1 3 rfl ?_
      refine R_ishl e_X11_suspects_5.2.2.2.2.1 ?_
      refine R_ior e_X11_suspects_5.2.2.2.2.2.1 ?_
      refine R_istore (ls2 := [(4, vI (kor l4 (kshl 1 l5))), (0, vA G 0), (2, vI l2), (5, vI l5)]) e_X11_suspects_5.2.2.2.2.2.2.1 (by decide) rfl ?_
      refine R_iinc (ls2 := [(5, vI (l5 + 1)), (4, vI (kor l4 (kshl 1 l5))), (0, vA G 0), (2, vI l2)]) e_X11_suspects_5.2.2.2.2.2.2.2.1 3 rfl (by decide) rfl ?_
      refine R_goto 66 e_X11_suspects_5.2.2.2.2.2.2.2.2.1 (by decide) ?_
      refine R_ls (ls2 := [(0, vA G 0), (2, vI l2), (4, vI (kor l4 (kshl 1 l5))), (5, vI (l5 + 1))]) [2, 3, 1, 0] rfl ?_
      exact h
/-! KiteLand.telling()I -/
theorem e_X11_telling_0 : decode cX11_telling 0 = .ok (.aload_n 0, 1) ∧ decode cX11_telling 1 = .ok (.getfield 43, 3) ∧ decode cX11_telling 4 = .ok (.invokevirtual 346, 3) ∧ decode cX11_telling 7 = .ok (.ifCond .ne 10, 3) ∧ decode cX11_telling 10 = .ok (.aload_n 0, 1) ∧ decode cX11_telling 11 = .ok (.bipush 6, 2) ∧ decode cX11_telling 13 = .ok (.invokevirtual 132, 3) ∧ decode cX11_telling 16 = .ok (.ireturn, 1) ∧ decode cX11_telling 17 = .ok (.aload_n 0, 1) ∧ decode cX11_telling 18 = .ok (.getfield 47, 3) := by decide +kernel
theorem e_X11_telling_1 : decode cX11_telling 21 = .ok (.aload_n 0, 1) ∧ decode cX11_telling 22 = .ok (.getfield 43, 3) ∧ decode cX11_telling 25 = .ok (.invokevirtual 167, 3) ∧ decode cX11_telling 28 = .ok (.iconst 0, 1) ∧ decode cX11_telling 29 = .ok (.istore_n 1, 1) ∧ decode cX11_telling 30 = .ok (.iconst (-1), 1) ∧ decode cX11_telling 31 = .ok (.istore_n 2, 1) ∧ decode cX11_telling 32 = .ok (.iconst 0, 1) ∧ decode cX11_telling 33 = .ok (.istore_n 3, 1) ∧ decode cX11_telling 34 = .ok (.iload_n 3, 1) := by decide +kernel
theorem e_X11_telling_2 : decode cX11_telling 35 = .ok (.aload_n 0, 1) ∧ decode cX11_telling 36 = .ok (.getfield 43, 3) ∧ decode cX11_telling 39 = .ok (.getfield 197, 3) ∧ decode cX11_telling 42 = .ok (.if_icmp .ge 30, 3) ∧ decode cX11_telling 45 = .ok (.aload_n 0, 1) ∧ decode cX11_telling 46 = .ok (.getfield 93, 3) ∧ decode cX11_telling 49 = .ok (.iload_n 3, 1) ∧ decode cX11_telling 50 = .ok (.invokevirtual 438, 3) ∧ decode cX11_telling 53 = .ok (.istore 4, 2) ∧ decode cX11_telling 55 = .ok (.iload 4, 2) := by decide +kernel
theorem e_X11_telling_3 : decode cX11_telling 57 = .ok (.iload_n 2, 1) ∧ decode cX11_telling 58 = .ok (.if_icmp .le 8, 3) ∧ decode cX11_telling 61 = .ok (.iload 4, 2) ∧ decode cX11_telling 63 = .ok (.istore_n 2, 1) ∧ decode cX11_telling 64 = .ok (.iload_n 3, 1) ∧ decode cX11_telling 65 = .ok (.istore_n 1, 1) ∧ decode cX11_telling 66 = .ok (.iinc 3 1, 3) ∧ decode cX11_telling 69 = .ok (.goto (-35), 3) ∧ decode cX11_telling 72 = .ok (.aload_n 0, 1) ∧ decode cX11_telling 73 = .ok (.iload_n 1, 1) := by decide +kernel
theorem e_X11_telling_4 : decode cX11_telling 74 = .ok (.invokevirtual 176, 3) ∧ decode cX11_telling 77 = .ok (.ireturn, 1) := by decide +kernel
abbrev E_X11_telling_34 (G : Kg) (l1 l2 l3 : Int) (σ : Kmem) (Q : Int → Kmem → Prop) : Prop := Ex G WX M_X11_telling 6 0 0 34 [(0, vA G 0), (1, vI l1), (2, vI l2), (3, vI l3)] [] σ Q
theorem S_X11_telling {G : Kg} {σ : Kmem} {Q : Int → Kmem → Prop}  (h : Run G WX M_X0_hasLand 0 0 0 [vA G 5] σ (fun r1 s2 => (rI r1) ∧ ((r1 ≠ 0 → Run G WX M_X0_copy 1 0 0 [vA G 31, vA G 5] s2 (fun r4 s5 => E_X11_telling_34 G 0 (-1) 0 s5 Q)) ∧ (r1 = 0 → Run G WX M_X11_deny 0 0 0 [vA G 0, vI 6] s2 (fun r6 s7 => Q r6 s7))))) : Run G WX M_X11_telling 6 0 0 [vA G 0] σ Q := by
  refine Run.of (by decide +kernel) (by show (1 : Nat) ≤ 5; decide) ?_
  show Ex G WX M_X11_telling 6 0 0 0 [(0, vA G 0)] [] σ Q
  refine R_aload_n e_X11_telling_0.1 0 rfl ?_
  refine R_getA 11 7 5 e_X11_telling_0.2.1 f_X11_43 kx_0 (fun _ _ => rfl) rx_0_7 (by decide) ?_
  refine R_callV (mc := 0) (ms := 0) (mc' := 0) (ms' := 0) (M' := M_X0_hasLand) (d' := 0) (as := []) (st := []) 0 0 e_X11_telling_0.2.2.1 (kCVof m_X0_hasLand l_X11_346) rfl (by decide) (kC_self isC_5) (by decide) (by decide) rfl rfl (by show (0 : Nat) ≤ 8; decide) ?_
  refine Run.mono h (fun r1 s2 h => ?_)
  refine R_eqs (st2 := [vI r1]) rfl rfl ?_
  obtain ⟨q3, h⟩ := h
  refine R_if_ne 17 e_X11_telling_0.2.2.2.1 (by decide) q3  (fun q => ?_) (fun q => ?_)
  · replace h := h.1 q
    refine R_aload_n e_X11_telling_0.2.2.2.2.2.2.2.2.1 0 rfl ?_
    refine R_getA 11 8 31 e_X11_telling_0.2.2.2.2.2.2.2.2.2 f_X11_47 kx_0 (fun _ _ => rfl) rx_0_8 (by decide) ?_
    refine R_aload_n e_X11_telling_1.1 0 rfl ?_
    refine R_getA 11 7 5 e_X11_telling_1.2.1 f_X11_43 kx_0 (fun _ _ => rfl) rx_0_7 (by decide) ?_
    refine R_callV (mc := 0) (ms := 0) (mc' := 0) (ms' := 0) (M' := M_X0_copy) (d' := 1) (as := [vA G 5]) (st := []) 0 1 e_X11_telling_1.2.2.1 (kCVof m_X0_copy l_X11_167) rfl (by decide) (kC_self isC_31) (by decide) (by decide) rfl rfl (by show (0 : Nat) ≤ 8; decide) ?_
    refine Run.mono h (fun r4 s5 h => ?_)
    refine R_eqs (st2 := []) rfl rfl ?_
    refine R_iconst e_X11_telling_1.2.2.2.1 ?_
    refine R_istore_n (ls2 := [(1, vI 0), (0, vA G 0)]) e_X11_telling_1.2.2.2.2.1 (by decide) rfl ?_
    refine R_iconst e_X11_telling_1.2.2.2.2.2.1 ?_
    refine R_istore_n (ls2 := [(2, vI (-1)), (1, vI 0), (0, vA G 0)]) e_X11_telling_1.2.2.2.2.2.2.1 (by decide) rfl ?_
    refine R_iconst e_X11_telling_1.2.2.2.2.2.2.2.1 ?_
    refine R_istore_n (ls2 := [(3, vI 0), (2, vI (-1)), (1, vI 0), (0, vA G 0)]) e_X11_telling_1.2.2.2.2.2.2.2.2.1 (by decide) rfl ?_
    refine R_ls (ls2 := [(0, vA G 0), (1, vI 0), (2, vI (-1)), (3, vI 0)]) [3, 2, 1, 0] rfl ?_
    exact h
  · replace h := h.2 q
    refine R_aload_n e_X11_telling_0.2.2.2.2.1 0 rfl ?_
    refine R_bipush e_X11_telling_0.2.2.2.2.2.1 (by decide) ?_
    refine R_callV (mc := 0) (ms := 0) (mc' := 0) (ms' := 0) (M' := M_X11_deny) (d' := 0) (as := [vI 6]) (st := []) 11 1 e_X11_telling_0.2.2.2.2.2.2.1 (kCVof m_X11_deny l_X11_132) rfl (by decide) kx_0 (by decide) (by decide) rfl rfl (by show (0 : Nat) ≤ 8; decide) ?_
    refine Run.mono h (fun r6 s7 h => ?_)
    refine R_eqs (st2 := [vI r6]) rfl rfl ?_
    exact R_ireturn e_X11_telling_0.2.2.2.2.2.2.2.1 rfl h
theorem S_X11_telling_34 {G : Kg} {σ : Kmem} {Q : Int → Kmem → Prop} {l1 l2 l3 : Int}  (h : (rI l3) ∧ (rI (σ 5 1)) ∧ ((σ 5 1 ≤ l3 → Run G WX M_X11_give 0 0 0 [vA G 0, vI l1] σ (fun r10 s11 => Q r10 s11)) ∧ (l3 < σ 5 1 → Run G WX M_X5_unlikeStrips 5 0 0 [vA G 82, vI l3] σ (fun r12 s13 => (rI r12) ∧ (rI l2) ∧ ((r12 ≤ l2 → E_X11_telling_34 G l1 l2 (l3 + 1) s13 Q) ∧ (l2 < r12 → E_X11_telling_34 G l3 r12 (l3 + 1) s13 Q)))))) : E_X11_telling_34 G l1 l2 l3 σ Q := by
  refine R_iload_n e_X11_telling_1.2.2.2.2.2.2.2.2.2 3 rfl ?_
  refine R_aload_n e_X11_telling_2.1 0 rfl ?_
  refine R_getA 11 7 5 e_X11_telling_2.2.1 f_X11_43 kx_0 (fun _ _ => rfl) rx_0_7 (by decide) ?_
  refine R_getI 0 1 1 e_X11_telling_2.2.2.1 f_X11_197 (kC_self isC_5) (fun _ _ => rfl) rfl ?_
  obtain ⟨q8, h⟩ := h
  obtain ⟨q9, h⟩ := h
  refine R_icmp_ge 72 e_X11_telling_2.2.2.2.1 (by decide) q8 q9 (fun q => ?_) (fun q => ?_)
  · replace h := h.1 q
    refine R_aload_n e_X11_telling_3.2.2.2.2.2.2.2.2.1 0 rfl ?_
    refine R_iload_n e_X11_telling_3.2.2.2.2.2.2.2.2.2 1 rfl ?_
    refine R_callV (mc := 0) (ms := 0) (mc' := 0) (ms' := 0) (M' := M_X11_give) (d' := 0) (as := [vI l1]) (st := []) 11 1 e_X11_telling_4.1 (kCVof m_X11_give l_X11_176) rfl (by decide) kx_0 (by decide) (by decide) rfl rfl (by show (0 : Nat) ≤ 8; decide) ?_
    refine Run.mono h (fun r10 s11 h => ?_)
    refine R_eqs (st2 := [vI r10]) rfl rfl ?_
    exact R_ireturn e_X11_telling_4.2 rfl h
  · replace h := h.2 q
    refine R_aload_n e_X11_telling_2.2.2.2.2.1 0 rfl ?_
    refine R_getA 11 15 82 e_X11_telling_2.2.2.2.2.2.1 f_X11_93 kx_0 (fun _ _ => rfl) rx_0_15 (by decide) ?_
    refine R_iload_n e_X11_telling_2.2.2.2.2.2.2.1 3 rfl ?_
    refine R_callV (mc := 0) (ms := 0) (mc' := 0) (ms' := 0) (M' := M_X5_unlikeStrips) (d' := 5) (as := [vI l3]) (st := []) 5 1 e_X11_telling_2.2.2.2.2.2.2.2.1 (kCVof m_X5_unlikeStrips l_X11_438) rfl (by decide) kx_82 (by decide) (by decide) rfl rfl (by show (0 : Nat) ≤ 8; decide) ?_
    refine Run.mono h (fun r12 s13 h => ?_)
    refine R_eqs (st2 := [vI r12]) rfl rfl ?_
    refine R_istore (ls2 := [(4, vI r12), (0, vA G 0), (1, vI l1), (2, vI l2), (3, vI l3)]) e_X11_telling_2.2.2.2.2.2.2.2.2.1 (by decide) rfl ?_
    refine R_iload e_X11_telling_2.2.2.2.2.2.2.2.2.2 0 rfl ?_
    refine R_iload_n e_X11_telling_3.1 3 rfl ?_
    obtain ⟨q14, h⟩ := h
    obtain ⟨q15, h⟩ := h
    refine R_icmp_le 66 e_X11_telling_3.2.1 (by decide) q14 q15 (fun q => ?_) (fun q => ?_)
    · replace h := h.1 q
      refine R_iinc (ls2 := [(3, vI (l3 + 1)), (4, vI r12), (0, vA G 0), (1, vI l1), (2, vI l2)]) e_X11_telling_3.2.2.2.2.2.2.1 4 rfl (by decide) rfl ?_
      refine R_goto 34 e_X11_telling_3.2.2.2.2.2.2.2.1 (by decide) ?_
      refine R_ls (ls2 := [(0, vA G 0), (1, vI l1), (2, vI l2), (3, vI (l3 + 1))]) [2, 3, 4, 0] rfl ?_
      exact h
    · replace h := h.2 q
      refine R_iload e_X11_telling_3.2.2.1 0 rfl ?_
      refine R_istore_n (ls2 := [(2, vI r12), (4, vI r12), (0, vA G 0), (1, vI l1), (3, vI l3)]) e_X11_telling_3.2.2.2.1 (by decide) rfl ?_
      refine R_iload_n e_X11_telling_3.2.2.2.2.1 4 rfl ?_
      refine R_istore_n (ls2 := [(1, vI l3), (2, vI r12), (4, vI r12), (0, vA G 0), (3, vI l3)]) e_X11_telling_3.2.2.2.2.2.1 (by decide) rfl ?_
      refine R_iinc (ls2 := [(3, vI (l3 + 1)), (1, vI l3), (2, vI r12), (4, vI r12), (0, vA G 0)]) e_X11_telling_3.2.2.2.2.2.2.1 4 rfl (by decide) rfl ?_
      refine R_goto 34 e_X11_telling_3.2.2.2.2.2.2.2.1 (by decide) ?_
      refine R_ls (ls2 := [(0, vA G 0), (1, vI l3), (2, vI r12), (3, vI (l3 + 1))]) [4, 1, 2, 0] rfl ?_
      exact h
/-! KiteLand.strips(I)I -/
theorem e_X11_strips_0 : decode cX11_strips 0 = .ok (.aload_n 0, 1) ∧ decode cX11_strips 1 = .ok (.getfield 43, 3) ∧ decode cX11_strips 4 = .ok (.iload_n 1, 1) ∧ decode cX11_strips 5 = .ok (.invokevirtual 421, 3) ∧ decode cX11_strips 8 = .ok (.ifCond .ne 9, 3) ∧ decode cX11_strips 11 = .ok (.aload_n 0, 1) ∧ decode cX11_strips 12 = .ok (.iconst 1, 1) ∧ decode cX11_strips 13 = .ok (.invokevirtual 132, 3) ∧ decode cX11_strips 16 = .ok (.ireturn, 1) ∧ decode cX11_strips 17 = .ok (.aload_n 0, 1) := by decide +kernel
theorem e_X11_strips_1 : decode cX11_strips 18 = .ok (.getfield 47, 3) ∧ decode cX11_strips 21 = .ok (.aload_n 0, 1) ∧ decode cX11_strips 22 = .ok (.getfield 43, 3) ∧ decode cX11_strips 25 = .ok (.invokevirtual 167, 3) ∧ decode cX11_strips 28 = .ok (.aload_n 0, 1) ∧ decode cX11_strips 29 = .ok (.aload_n 0, 1) ∧ decode cX11_strips 30 = .ok (.getfield 93, 3) ∧ decode cX11_strips 33 = .ok (.iload_n 1, 1) ∧ decode cX11_strips 34 = .ok (.invokevirtual 438, 3) ∧ decode cX11_strips 37 = .ok (.invokevirtual 176, 3) := by decide +kernel
theorem e_X11_strips_2 : decode cX11_strips 40 = .ok (.ireturn, 1) := by decide +kernel
theorem S_X11_strips {G : Kg} {σ : Kmem} {Q : Int → Kmem → Prop} {l1 : Int}  (h : Run G WX M_X0_hasRow 0 0 0 [vA G 5, vI l1] σ (fun r1 s2 => (rI r1) ∧ ((r1 ≠ 0 → Run G WX M_X0_copy 1 0 0 [vA G 31, vA G 5] s2 (fun r4 s5 => Run G WX M_X5_unlikeStrips 5 0 0 [vA G 82, vI l1] s5 (fun r6 s7 => Run G WX M_X11_give 0 0 0 [vA G 0, vI r6] s7 (fun r8 s9 => Q r8 s9)))) ∧ (r1 = 0 → Run G WX M_X11_deny 0 0 0 [vA G 0, vI 1] s2 (fun r10 s11 => Q r10 s11))))) : Run G WX M_X11_strips 6 0 0 [vA G 0, vI l1] σ Q := by
  refine Run.of (by decide +kernel) (by show (2 : Nat) ≤ 2; decide) ?_
  show Ex G WX M_X11_strips 6 0 0 0 [(0, vA G 0), (1, vI l1)] [] σ Q
  refine R_aload_n e_X11_strips_0.1 0 rfl ?_
  refine R_getA 11 7 5 e_X11_strips_0.2.1 f_X11_43 kx_0 (fun _ _ => rfl) rx_0_7 (by decide) ?_
  refine R_iload_n e_X11_strips_0.2.2.1 1 rfl ?_
  refine R_callV (mc := 0) (ms := 0) (mc' := 0) (ms' := 0) (M' := M_X0_hasRow) (d' := 0) (as := [vI l1]) (st := []) 0 1 e_X11_strips_0.2.2.2.1 (kCVof m_X0_hasRow l_X11_421) rfl (by decide) (kC_self isC_5) (by decide) (by decide) rfl rfl (by show (0 : Nat) ≤ 8; decide) ?_
  refine Run.mono h (fun r1 s2 h => ?_)
  refine R_eqs (st2 := [vI r1]) rfl rfl ?_
  obtain ⟨q3, h⟩ := h
  refine R_if_ne 17 e_X11_strips_0.2.2.2.2.1 (by decide) q3  (fun q => ?_) (fun q => ?_)
  · replace h := h.1 q
    refine R_aload_n e_X11_strips_0.2.2.2.2.2.2.2.2.2 0 rfl ?_
    refine R_getA 11 8 31 e_X11_strips_1.1 f_X11_47 kx_0 (fun _ _ => rfl) rx_0_8 (by decide) ?_
    refine R_aload_n e_X11_strips_1.2.1 0 rfl ?_
    refine R_getA 11 7 5 e_X11_strips_1.2.2.1 f_X11_43 kx_0 (fun _ _ => rfl) rx_0_7 (by decide) ?_
    refine R_callV (mc := 0) (ms := 0) (mc' := 0) (ms' := 0) (M' := M_X0_copy) (d' := 1) (as := [vA G 5]) (st := []) 0 1 e_X11_strips_1.2.2.2.1 (kCVof m_X0_copy l_X11_167) rfl (by decide) (kC_self isC_31) (by decide) (by decide) rfl rfl (by show (0 : Nat) ≤ 8; decide) ?_
    refine Run.mono h (fun r4 s5 h => ?_)
    refine R_eqs (st2 := []) rfl rfl ?_
    refine R_aload_n e_X11_strips_1.2.2.2.2.1 0 rfl ?_
    refine R_aload_n e_X11_strips_1.2.2.2.2.2.1 0 rfl ?_
    refine R_getA 11 15 82 e_X11_strips_1.2.2.2.2.2.2.1 f_X11_93 kx_0 (fun _ _ => rfl) rx_0_15 (by decide) ?_
    refine R_iload_n e_X11_strips_1.2.2.2.2.2.2.2.1 1 rfl ?_
    refine R_callV (mc := 0) (ms := 0) (mc' := 0) (ms' := 0) (M' := M_X5_unlikeStrips) (d' := 5) (as := [vI l1]) (st := [vA G 0]) 5 1 e_X11_strips_1.2.2.2.2.2.2.2.2.1 (kCVof m_X5_unlikeStrips l_X11_438) rfl (by decide) kx_82 (by decide) (by decide) rfl rfl (by show (1 : Nat) ≤ 8; decide) ?_
    refine Run.mono h (fun r6 s7 h => ?_)
    refine R_eqs (st2 := [vI r6, vA G 0]) rfl rfl ?_
    refine R_callV (mc := 0) (ms := 0) (mc' := 0) (ms' := 0) (M' := M_X11_give) (d' := 0) (as := [vI r6]) (st := []) 11 1 e_X11_strips_1.2.2.2.2.2.2.2.2.2 (kCVof m_X11_give l_X11_176) rfl (by decide) kx_0 (by decide) (by decide) rfl rfl (by show (0 : Nat) ≤ 8; decide) ?_
    refine Run.mono h (fun r8 s9 h => ?_)
    refine R_eqs (st2 := [vI r8]) rfl rfl ?_
    exact R_ireturn e_X11_strips_2 rfl h
  · replace h := h.2 q
    refine R_aload_n e_X11_strips_0.2.2.2.2.2.1 0 rfl ?_
    refine R_iconst e_X11_strips_0.2.2.2.2.2.2.1 ?_
    refine R_callV (mc := 0) (ms := 0) (mc' := 0) (ms' := 0) (M' := M_X11_deny) (d' := 0) (as := [vI 1]) (st := []) 11 1 e_X11_strips_0.2.2.2.2.2.2.2.1 (kCVof m_X11_deny l_X11_132) rfl (by decide) kx_0 (by decide) (by decide) rfl rfl (by show (0 : Nat) ≤ 8; decide) ?_
    refine Run.mono h (fun r10 s11 h => ?_)
    refine R_eqs (st2 := [vI r10]) rfl rfl ?_
    exact R_ireturn e_X11_strips_0.2.2.2.2.2.2.2.2.1 rfl h
/-! KiteLand.duel(III)I -/
theorem e_X11_duel_0 : decode cX11_duel 0 = .ok (.aload_n 0, 1) ∧ decode cX11_duel 1 = .ok (.getfield 43, 3) ∧ decode cX11_duel 4 = .ok (.iload_n 1, 1) ∧ decode cX11_duel 5 = .ok (.invokevirtual 238, 3) ∧ decode cX11_duel 8 = .ok (.ifCond .eq 28, 3) ∧ decode cX11_duel 11 = .ok (.aload_n 0, 1) ∧ decode cX11_duel 12 = .ok (.getfield 43, 3) ∧ decode cX11_duel 15 = .ok (.iload_n 2, 1) ∧ decode cX11_duel 16 = .ok (.invokevirtual 238, 3) ∧ decode cX11_duel 19 = .ok (.ifCond .eq 17, 3) := by decide +kernel
theorem e_X11_duel_1 : decode cX11_duel 22 = .ok (.iload_n 1, 1) ∧ decode cX11_duel 23 = .ok (.iload_n 2, 1) ∧ decode cX11_duel 24 = .ok (.if_icmp .eq 12, 3) ∧ decode cX11_duel 27 = .ok (.iload_n 3, 1) ∧ decode cX11_duel 28 = .ok (.ifCond .lt 8, 3) ∧ decode cX11_duel 31 = .ok (.iload_n 3, 1) ∧ decode cX11_duel 32 = .ok (.iconst 4, 1) ∧ decode cX11_duel 33 = .ok (.if_icmp .le 9, 3) ∧ decode cX11_duel 36 = .ok (.aload_n 0, 1) ∧ decode cX11_duel 37 = .ok (.iconst 1, 1) := by decide +kernel
theorem e_X11_duel_2 : decode cX11_duel 38 = .ok (.invokevirtual 132, 3) ∧ decode cX11_duel 41 = .ok (.ireturn, 1) ∧ decode cX11_duel 42 = .ok (.aload_n 0, 1) ∧ decode cX11_duel 43 = .ok (.getfield 47, 3) ∧ decode cX11_duel 46 = .ok (.aload_n 0, 1) ∧ decode cX11_duel 47 = .ok (.getfield 43, 3) ∧ decode cX11_duel 50 = .ok (.invokevirtual 167, 3) ∧ decode cX11_duel 53 = .ok (.aload_n 0, 1) ∧ decode cX11_duel 54 = .ok (.getfield 93, 3) ∧ decode cX11_duel 57 = .ok (.iload_n 1, 1) := by decide +kernel
theorem e_X11_duel_3 : decode cX11_duel 58 = .ok (.iload_n 2, 1) ∧ decode cX11_duel 59 = .ok (.iload_n 3, 1) ∧ decode cX11_duel 60 = .ok (.invokevirtual 441, 3) ∧ decode cX11_duel 63 = .ok (.aload_n 0, 1) ∧ decode cX11_duel 64 = .ok (.aload_n 0, 1) ∧ decode cX11_duel 65 = .ok (.getfield 93, 3) ∧ decode cX11_duel 68 = .ok (.getfield 445, 3) ∧ decode cX11_duel 71 = .ok (.invokevirtual 176, 3) ∧ decode cX11_duel 74 = .ok (.ireturn, 1) := by decide +kernel
theorem S_X11_duel {G : Kg} {σ : Kmem} {Q : Int → Kmem → Prop} {l1 l2 l3 : Int}  (h : Run G WX M_X0_hasKite 0 0 0 [vA G 5, vI l1] σ (fun r1 s2 => (rI r1) ∧ ((r1 = 0 → Run G WX M_X11_deny 0 0 0 [vA G 0, vI 1] s2 (fun r4 s5 => Q r4 s5)) ∧ (r1 ≠ 0 → Run G WX M_X0_hasKite 0 0 0 [vA G 5, vI l2] s2 (fun r6 s7 => (rI r6) ∧ ((r6 = 0 → Run G WX M_X11_deny 0 0 0 [vA G 0, vI 1] s7 (fun r9 s10 => Q r9 s10)) ∧ (r6 ≠ 0 → (rI l1) ∧ (rI l2) ∧ ((l1 = l2 → Run G WX M_X11_deny 0 0 0 [vA G 0, vI 1] s7 (fun r13 s14 => Q r13 s14)) ∧ (l1 ≠ l2 → (rI l3) ∧ ((l3 < 0 → Run G WX M_X11_deny 0 0 0 [vA G 0, vI 1] s7 (fun r16 s17 => Q r16 s17)) ∧ (0 ≤ l3 → ((l3 ≤ 4 → Run G WX M_X0_copy 1 0 0 [vA G 31, vA G 5] s7 (fun r18 s19 => Run G WX M_X5_seekDuel 21 0 0 [vA G 82, vI l1, vI l2, vI l3] s19 (fun r20 s21 => Run G WX M_X11_give 0 0 0 [vA G 0, vI (s21 82 12)] s21 (fun r22 s23 => Q r22 s23)))) ∧ (4 < l3 → Run G WX M_X11_deny 0 0 0 [vA G 0, vI 1] s7 (fun r24 s25 => Q r24 s25)))))))))))))) : Run G WX M_X11_duel 22 0 0 [vA G 0, vI l1, vI l2, vI l3] σ Q := by
  refine Run.of (by decide +kernel) (by show (4 : Nat) ≤ 4; decide) ?_
  show Ex G WX M_X11_duel 22 0 0 0 [(0, vA G 0), (1, vI l1), (2, vI l2), (3, vI l3)] [] σ Q
  refine R_aload_n e_X11_duel_0.1 0 rfl ?_
  refine R_getA 11 7 5 e_X11_duel_0.2.1 f_X11_43 kx_0 (fun _ _ => rfl) rx_0_7 (by decide) ?_
  refine R_iload_n e_X11_duel_0.2.2.1 1 rfl ?_
  refine R_callV (mc := 0) (ms := 0) (mc' := 0) (ms' := 0) (M' := M_X0_hasKite) (d' := 0) (as := [vI l1]) (st := []) 0 1 e_X11_duel_0.2.2.2.1 (kCVof m_X0_hasKite l_X11_238) rfl (by decide) (kC_self isC_5) (by decide) (by decide) rfl rfl (by show (0 : Nat) ≤ 8; decide) ?_
  refine Run.mono h (fun r1 s2 h => ?_)
  refine R_eqs (st2 := [vI r1]) rfl rfl ?_
  obtain ⟨q3, h⟩ := h
  refine R_if_eq 36 e_X11_duel_0.2.2.2.2.1 (by decide) q3  (fun q => ?_) (fun q => ?_)
  · replace h := h.1 q
    refine R_aload_n e_X11_duel_1.2.2.2.2.2.2.2.2.1 0 rfl ?_
    refine R_iconst e_X11_duel_1.2.2.2.2.2.2.2.2.2 ?_
    refine R_callV (mc := 0) (ms := 0) (mc' := 0) (ms' := 0) (M' := M_X11_deny) (d' := 0) (as := [vI 1]) (st := []) 11 1 e_X11_duel_2.1 (kCVof m_X11_deny l_X11_132) rfl (by decide) kx_0 (by decide) (by decide) rfl rfl (by show (0 : Nat) ≤ 8; decide) ?_
    refine Run.mono h (fun r4 s5 h => ?_)
    refine R_eqs (st2 := [vI r4]) rfl rfl ?_
    exact R_ireturn e_X11_duel_2.2.1 rfl h
  · replace h := h.2 q
    refine R_aload_n e_X11_duel_0.2.2.2.2.2.1 0 rfl ?_
    refine R_getA 11 7 5 e_X11_duel_0.2.2.2.2.2.2.1 f_X11_43 kx_0 (fun _ _ => rfl) rx_0_7 (by decide) ?_
    refine R_iload_n e_X11_duel_0.2.2.2.2.2.2.2.1 2 rfl ?_
    refine R_callV (mc := 0) (ms := 0) (mc' := 0) (ms' := 0) (M' := M_X0_hasKite) (d' := 0) (as := [vI l2]) (st := []) 0 1 e_X11_duel_0.2.2.2.2.2.2.2.2.1 (kCVof m_X0_hasKite l_X11_238) rfl (by decide) (kC_self isC_5) (by decide) (by decide) rfl rfl (by show (0 : Nat) ≤ 8; decide) ?_
    refine Run.mono h (fun r6 s7 h => ?_)
    refine R_eqs (st2 := [vI r6]) rfl rfl ?_
    obtain ⟨q8, h⟩ := h
    refine R_if_eq 36 e_X11_duel_0.2.2.2.2.2.2.2.2.2 (by decide) q8  (fun q => ?_) (fun q => ?_)
    · replace h := h.1 q
      refine R_aload_n e_X11_duel_1.2.2.2.2.2.2.2.2.1 0 rfl ?_
      refine R_iconst e_X11_duel_1.2.2.2.2.2.2.2.2.2 ?_
      refine R_callV (mc := 0) (ms := 0) (mc' := 0) (ms' := 0) (M' := M_X11_deny) (d' := 0) (as := [vI 1]) (st := []) 11 1 e_X11_duel_2.1 (kCVof m_X11_deny l_X11_132) rfl (by decide) kx_0 (by decide) (by decide) rfl rfl (by show (0 : Nat) ≤ 8; decide) ?_
      refine Run.mono h (fun r9 s10 h => ?_)
      refine R_eqs (st2 := [vI r9]) rfl rfl ?_
      exact R_ireturn e_X11_duel_2.2.1 rfl h
    · replace h := h.2 q
      refine R_iload_n e_X11_duel_1.1 1 rfl ?_
      refine R_iload_n e_X11_duel_1.2.1 2 rfl ?_
      obtain ⟨q11, h⟩ := h
      obtain ⟨q12, h⟩ := h
      refine R_icmp_eq 36 e_X11_duel_1.2.2.1 (by decide) q11 q12 (fun q => ?_) (fun q => ?_)
      · replace h := h.1 q
        refine R_aload_n e_X11_duel_1.2.2.2.2.2.2.2.2.1 0 rfl ?_
        refine R_iconst e_X11_duel_1.2.2.2.2.2.2.2.2.2 ?_
        refine R_callV (mc := 0) (ms := 0) (mc' := 0) (ms' := 0) (M' := M_X11_deny) (d' := 0) (as := [vI 1]) (st := []) 11 1 e_X11_duel_2.1 (kCVof m_X11_deny l_X11_132) rfl (by decide) kx_0 (by decide) (by decide) rfl rfl (by show (0 : Nat) ≤ 8; decide) ?_
        refine Run.mono h (fun r13 s14 h => ?_)
        refine R_eqs (st2 := [vI r13]) rfl rfl ?_
        exact R_ireturn e_X11_duel_2.2.1 rfl h
      · replace h := h.2 q
        refine R_iload_n e_X11_duel_1.2.2.2.1 3 rfl ?_
        obtain ⟨q15, h⟩ := h
        refine R_if_lt 36 e_X11_duel_1.2.2.2.2.1 (by decide) q15  (fun q => ?_) (fun q => ?_)
        · replace h := h.1 q
          refine R_aload_n e_X11_duel_1.2.2.2.2.2.2.2.2.1 0 rfl ?_
          refine R_iconst e_X11_duel_1.2.2.2.2.2.2.2.2.2 ?_
          refine R_callV (mc := 0) (ms := 0) (mc' := 0) (ms' := 0) (M' := M_X11_deny) (d' := 0) (as := [vI 1]) (st := []) 11 1 e_X11_duel_2.1 (kCVof m_X11_deny l_X11_132) rfl (by decide) kx_0 (by decide) (by decide) rfl rfl (by show (0 : Nat) ≤ 8; decide) ?_
          refine Run.mono h (fun r16 s17 h => ?_)
          refine R_eqs (st2 := [vI r16]) rfl rfl ?_
          exact R_ireturn e_X11_duel_2.2.1 rfl h
        · replace h := h.2 q
          refine R_iload_n e_X11_duel_1.2.2.2.2.2.1 3 rfl ?_
          refine R_iconst e_X11_duel_1.2.2.2.2.2.2.1 ?_
          refine R_icmp_le 42 e_X11_duel_1.2.2.2.2.2.2.2.1 (by decide) q15 (by decide) (fun q => ?_) (fun q => ?_)
          · replace h := h.1 q
            refine R_aload_n e_X11_duel_2.2.2.1 0 rfl ?_
            refine R_getA 11 8 31 e_X11_duel_2.2.2.2.1 f_X11_47 kx_0 (fun _ _ => rfl) rx_0_8 (by decide) ?_
            refine R_aload_n e_X11_duel_2.2.2.2.2.1 0 rfl ?_
            refine R_getA 11 7 5 e_X11_duel_2.2.2.2.2.2.1 f_X11_43 kx_0 (fun _ _ => rfl) rx_0_7 (by decide) ?_
            refine R_callV (mc := 0) (ms := 0) (mc' := 0) (ms' := 0) (M' := M_X0_copy) (d' := 1) (as := [vA G 5]) (st := []) 0 1 e_X11_duel_2.2.2.2.2.2.2.1 (kCVof m_X0_copy l_X11_167) rfl (by decide) (kC_self isC_31) (by decide) (by decide) rfl rfl (by show (0 : Nat) ≤ 8; decide) ?_
            refine Run.mono h (fun r18 s19 h => ?_)
            refine R_eqs (st2 := []) rfl rfl ?_
            refine R_aload_n e_X11_duel_2.2.2.2.2.2.2.2.1 0 rfl ?_
            refine R_getA 11 15 82 e_X11_duel_2.2.2.2.2.2.2.2.2.1 f_X11_93 kx_0 (fun _ _ => rfl) rx_0_15 (by decide) ?_
            refine R_iload_n e_X11_duel_2.2.2.2.2.2.2.2.2.2 1 rfl ?_
            refine R_iload_n e_X11_duel_3.1 2 rfl ?_
            refine R_iload_n e_X11_duel_3.2.1 3 rfl ?_
            refine R_callV (mc := 0) (ms := 0) (mc' := 0) (ms' := 0) (M' := M_X5_seekDuel) (d' := 21) (as := [vI l1, vI l2, vI l3]) (st := []) 5 3 e_X11_duel_3.2.2.1 (kCVof m_X5_seekDuel l_X11_441) rfl (by decide) kx_82 (by decide) (by decide) rfl rfl (by show (0 : Nat) ≤ 8; decide) ?_
            refine Run.mono h (fun r20 s21 h => ?_)
            refine R_eqs (st2 := []) rfl rfl ?_
            refine R_aload_n e_X11_duel_3.2.2.2.1 0 rfl ?_
            refine R_aload_n e_X11_duel_3.2.2.2.2.1 0 rfl ?_
            refine R_getA 11 15 82 e_X11_duel_3.2.2.2.2.2.1 f_X11_93 kx_0 (fun _ _ => rfl) rx_0_15 (by decide) ?_
            refine R_getI 5 12 12 e_X11_duel_3.2.2.2.2.2.2.1 f_X11_445 kx_82 (fun _ _ => rfl) rfl ?_
            refine R_callV (mc := 0) (ms := 0) (mc' := 0) (ms' := 0) (M' := M_X11_give) (d' := 0) (as := [vI (s21 82 12)]) (st := []) 11 1 e_X11_duel_3.2.2.2.2.2.2.2.1 (kCVof m_X11_give l_X11_176) rfl (by decide) kx_0 (by decide) (by decide) rfl rfl (by show (0 : Nat) ≤ 8; decide) ?_
            refine Run.mono h (fun r22 s23 h => ?_)
            refine R_eqs (st2 := [vI r22]) rfl rfl ?_
            exact R_ireturn e_X11_duel_3.2.2.2.2.2.2.2.2 rfl h
          · replace h := h.2 q
            refine R_aload_n e_X11_duel_1.2.2.2.2.2.2.2.2.1 0 rfl ?_
            refine R_iconst e_X11_duel_1.2.2.2.2.2.2.2.2.2 ?_
            refine R_callV (mc := 0) (ms := 0) (mc' := 0) (ms' := 0) (M' := M_X11_deny) (d' := 0) (as := [vI 1]) (st := []) 11 1 e_X11_duel_2.1 (kCVof m_X11_deny l_X11_132) rfl (by decide) kx_0 (by decide) (by decide) rfl rfl (by show (0 : Nat) ≤ 8; decide) ?_
            refine Run.mono h (fun r24 s25 h => ?_)
            refine R_eqs (st2 := [vI r24]) rfl rfl ?_
            exact R_ireturn e_X11_duel_2.2.1 rfl h
/-! KiteLand.duelStep(III)I -/
theorem e_X11_duelStep_0 : decode cX11_duelStep 0 = .ok (.aload_n 0, 1) ∧ decode cX11_duelStep 1 = .ok (.getfield 43, 3) ∧ decode cX11_duelStep 4 = .ok (.iload_n 1, 1) ∧ decode cX11_duelStep 5 = .ok (.invokevirtual 238, 3) ∧ decode cX11_duelStep 8 = .ok (.ifCond .eq 29, 3) ∧ decode cX11_duelStep 11 = .ok (.aload_n 0, 1) ∧ decode cX11_duelStep 12 = .ok (.getfield 43, 3) ∧ decode cX11_duelStep 15 = .ok (.iload_n 2, 1) ∧ decode cX11_duelStep 16 = .ok (.invokevirtual 238, 3) ∧ decode cX11_duelStep 19 = .ok (.ifCond .eq 18, 3) := by decide +kernel
theorem e_X11_duelStep_1 : decode cX11_duelStep 22 = .ok (.iload_n 1, 1) ∧ decode cX11_duelStep 23 = .ok (.iload_n 2, 1) ∧ decode cX11_duelStep 24 = .ok (.if_icmp .eq 13, 3) ∧ decode cX11_duelStep 27 = .ok (.iload_n 3, 1) ∧ decode cX11_duelStep 28 = .ok (.iconst 1, 1) ∧ decode cX11_duelStep 29 = .ok (.if_icmp .lt 8, 3) ∧ decode cX11_duelStep 32 = .ok (.iload_n 3, 1) ∧ decode cX11_duelStep 33 = .ok (.iconst 4, 1) ∧ decode cX11_duelStep 34 = .ok (.if_icmp .le 9, 3) ∧ decode cX11_duelStep 37 = .ok (.aload_n 0, 1) := by decide +kernel
theorem e_X11_duelStep_2 : decode cX11_duelStep 38 = .ok (.iconst 1, 1) ∧ decode cX11_duelStep 39 = .ok (.invokevirtual 132, 3) ∧ decode cX11_duelStep 42 = .ok (.ireturn, 1) ∧ decode cX11_duelStep 43 = .ok (.aload_n 0, 1) ∧ decode cX11_duelStep 44 = .ok (.getfield 47, 3) ∧ decode cX11_duelStep 47 = .ok (.aload_n 0, 1) ∧ decode cX11_duelStep 48 = .ok (.getfield 43, 3) ∧ decode cX11_duelStep 51 = .ok (.invokevirtual 167, 3) ∧ decode cX11_duelStep 54 = .ok (.aload_n 0, 1) ∧ decode cX11_duelStep 55 = .ok (.getfield 93, 3) := by decide +kernel
theorem e_X11_duelStep_3 : decode cX11_duelStep 58 = .ok (.iload_n 1, 1) ∧ decode cX11_duelStep 59 = .ok (.iload_n 2, 1) ∧ decode cX11_duelStep 60 = .ok (.iload_n 3, 1) ∧ decode cX11_duelStep 61 = .ok (.invokevirtual 441, 3) ∧ decode cX11_duelStep 64 = .ok (.aload_n 0, 1) ∧ decode cX11_duelStep 65 = .ok (.aload_n 0, 1) ∧ decode cX11_duelStep 66 = .ok (.getfield 93, 3) ∧ decode cX11_duelStep 69 = .ok (.getfield 448, 3) ∧ decode cX11_duelStep 72 = .ok (.iload_n 3, 1) ∧ decode cX11_duelStep 73 = .ok (.iaload, 1) := by decide +kernel
theorem e_X11_duelStep_4 : decode cX11_duelStep 74 = .ok (.invokevirtual 176, 3) ∧ decode cX11_duelStep 77 = .ok (.ireturn, 1) := by decide +kernel
theorem S_X11_duelStep {G : Kg} {σ : Kmem} {Q : Int → Kmem → Prop} {l1 l2 l3 : Int}  (h : Run G WX M_X0_hasKite 0 0 0 [vA G 5, vI l1] σ (fun r1 s2 => (rI r1) ∧ ((r1 = 0 → Run G WX M_X11_deny 0 0 0 [vA G 0, vI 1] s2 (fun r4 s5 => Q r4 s5)) ∧ (r1 ≠ 0 → Run G WX M_X0_hasKite 0 0 0 [vA G 5, vI l2] s2 (fun r6 s7 => (rI r6) ∧ ((r6 = 0 → Run G WX M_X11_deny 0 0 0 [vA G 0, vI 1] s7 (fun r9 s10 => Q r9 s10)) ∧ (r6 ≠ 0 → (rI l1) ∧ (rI l2) ∧ ((l1 = l2 → Run G WX M_X11_deny 0 0 0 [vA G 0, vI 1] s7 (fun r13 s14 => Q r13 s14)) ∧ (l1 ≠ l2 → (rI l3) ∧ ((l3 < 1 → Run G WX M_X11_deny 0 0 0 [vA G 0, vI 1] s7 (fun r16 s17 => Q r16 s17)) ∧ (1 ≤ l3 → ((l3 ≤ 4 → Run G WX M_X0_copy 1 0 0 [vA G 31, vA G 5] s7 (fun r18 s19 => Run G WX M_X5_seekDuel 21 0 0 [vA G 82, vI l1, vI l2, vI l3] s19 (fun r20 s21 => (0 ≤ l3 ∧ l3 < 5) ∧ Run G WX M_X11_give 0 0 0 [vA G 0, vI (s21 86 l3)] s21 (fun r23 s24 => Q r23 s24)))) ∧ (4 < l3 → Run G WX M_X11_deny 0 0 0 [vA G 0, vI 1] s7 (fun r25 s26 => Q r25 s26)))))))))))))) : Run G WX M_X11_duelStep 22 0 0 [vA G 0, vI l1, vI l2, vI l3] σ Q := by
  refine Run.of (by decide +kernel) (by show (4 : Nat) ≤ 4; decide) ?_
  show Ex G WX M_X11_duelStep 22 0 0 0 [(0, vA G 0), (1, vI l1), (2, vI l2), (3, vI l3)] [] σ Q
  refine R_aload_n e_X11_duelStep_0.1 0 rfl ?_
  refine R_getA 11 7 5 e_X11_duelStep_0.2.1 f_X11_43 kx_0 (fun _ _ => rfl) rx_0_7 (by decide) ?_
  refine R_iload_n e_X11_duelStep_0.2.2.1 1 rfl ?_
  refine R_callV (mc := 0) (ms := 0) (mc' := 0) (ms' := 0) (M' := M_X0_hasKite) (d' := 0) (as := [vI l1]) (st := []) 0 1 e_X11_duelStep_0.2.2.2.1 (kCVof m_X0_hasKite l_X11_238) rfl (by decide) (kC_self isC_5) (by decide) (by decide) rfl rfl (by show (0 : Nat) ≤ 8; decide) ?_
  refine Run.mono h (fun r1 s2 h => ?_)
  refine R_eqs (st2 := [vI r1]) rfl rfl ?_
  obtain ⟨q3, h⟩ := h
  refine R_if_eq 37 e_X11_duelStep_0.2.2.2.2.1 (by decide) q3  (fun q => ?_) (fun q => ?_)
  · replace h := h.1 q
    refine R_aload_n e_X11_duelStep_1.2.2.2.2.2.2.2.2.2 0 rfl ?_
    refine R_iconst e_X11_duelStep_2.1 ?_
    refine R_callV (mc := 0) (ms := 0) (mc' := 0) (ms' := 0) (M' := M_X11_deny) (d' := 0) (as := [vI 1]) (st := []) 11 1 e_X11_duelStep_2.2.1 (kCVof m_X11_deny l_X11_132) rfl (by decide) kx_0 (by decide) (by decide) rfl rfl (by show (0 : Nat) ≤ 8; decide) ?_
    refine Run.mono h (fun r4 s5 h => ?_)
    refine R_eqs (st2 := [vI r4]) rfl rfl ?_
    exact R_ireturn e_X11_duelStep_2.2.2.1 rfl h
  · replace h := h.2 q
    refine R_aload_n e_X11_duelStep_0.2.2.2.2.2.1 0 rfl ?_
    refine R_getA 11 7 5 e_X11_duelStep_0.2.2.2.2.2.2.1 f_X11_43 kx_0 (fun _ _ => rfl) rx_0_7 (by decide) ?_
    refine R_iload_n e_X11_duelStep_0.2.2.2.2.2.2.2.1 2 rfl ?_
    refine R_callV (mc := 0) (ms := 0) (mc' := 0) (ms' := 0) (M' := M_X0_hasKite) (d' := 0) (as := [vI l2]) (st := []) 0 1 e_X11_duelStep_0.2.2.2.2.2.2.2.2.1 (kCVof m_X0_hasKite l_X11_238) rfl (by decide) (kC_self isC_5) (by decide) (by decide) rfl rfl (by show (0 : Nat) ≤ 8; decide) ?_
    refine Run.mono h (fun r6 s7 h => ?_)
    refine R_eqs (st2 := [vI r6]) rfl rfl ?_
    obtain ⟨q8, h⟩ := h
    refine R_if_eq 37 e_X11_duelStep_0.2.2.2.2.2.2.2.2.2 (by decide) q8  (fun q => ?_) (fun q => ?_)
    · replace h := h.1 q
      refine R_aload_n e_X11_duelStep_1.2.2.2.2.2.2.2.2.2 0 rfl ?_
      refine R_iconst e_X11_duelStep_2.1 ?_
      refine R_callV (mc := 0) (ms := 0) (mc' := 0) (ms' := 0) (M' := M_X11_deny) (d' := 0) (as := [vI 1]) (st := []) 11 1 e_X11_duelStep_2.2.1 (kCVof m_X11_deny l_X11_132) rfl (by decide) kx_0 (by decide) (by decide) rfl rfl (by show (0 : Nat) ≤ 8; decide) ?_
      refine Run.mono h (fun r9 s10 h => ?_)
      refine R_eqs (st2 := [vI r9]) rfl rfl ?_
      exact R_ireturn e_X11_duelStep_2.2.2.1 rfl h
    · replace h := h.2 q
      refine R_iload_n e_X11_duelStep_1.1 1 rfl ?_
      refine R_iload_n e_X11_duelStep_1.2.1 2 rfl ?_
      obtain ⟨q11, h⟩ := h
      obtain ⟨q12, h⟩ := h
      refine R_icmp_eq 37 e_X11_duelStep_1.2.2.1 (by decide) q11 q12 (fun q => ?_) (fun q => ?_)
      · replace h := h.1 q
        refine R_aload_n e_X11_duelStep_1.2.2.2.2.2.2.2.2.2 0 rfl ?_
        refine R_iconst e_X11_duelStep_2.1 ?_
        refine R_callV (mc := 0) (ms := 0) (mc' := 0) (ms' := 0) (M' := M_X11_deny) (d' := 0) (as := [vI 1]) (st := []) 11 1 e_X11_duelStep_2.2.1 (kCVof m_X11_deny l_X11_132) rfl (by decide) kx_0 (by decide) (by decide) rfl rfl (by show (0 : Nat) ≤ 8; decide) ?_
        refine Run.mono h (fun r13 s14 h => ?_)
        refine R_eqs (st2 := [vI r13]) rfl rfl ?_
        exact R_ireturn e_X11_duelStep_2.2.2.1 rfl h
      · replace h := h.2 q
        refine R_iload_n e_X11_duelStep_1.2.2.2.1 3 rfl ?_
        refine R_iconst e_X11_duelStep_1.2.2.2.2.1 ?_
        obtain ⟨q15, h⟩ := h
        refine R_icmp_lt 37 e_X11_duelStep_1.2.2.2.2.2.1 (by decide) q15 (by decide) (fun q => ?_) (fun q => ?_)
        · replace h := h.1 q
          refine R_aload_n e_X11_duelStep_1.2.2.2.2.2.2.2.2.2 0 rfl ?_
          refine R_iconst e_X11_duelStep_2.1 ?_
          refine R_callV (mc := 0) (ms := 0) (mc' := 0) (ms' := 0) (M' := M_X11_deny) (d' := 0) (as := [vI 1]) (st := []) 11 1 e_X11_duelStep_2.2.1 (kCVof m_X11_deny l_X11_132) rfl (by decide) kx_0 (by decide) (by decide) rfl rfl (by show (0 : Nat) ≤ 8; decide) ?_
          refine Run.mono h (fun r16 s17 h => ?_)
          refine R_eqs (st2 := [vI r16]) rfl rfl ?_
          exact R_ireturn e_X11_duelStep_2.2.2.1 rfl h
        · replace h := h.2 q
          refine R_iload_n e_X11_duelStep_1.2.2.2.2.2.2.1 3 rfl ?_
          refine R_iconst e_X11_duelStep_1.2.2.2.2.2.2.2.1 ?_
          refine R_icmp_le 43 e_X11_duelStep_1.2.2.2.2.2.2.2.2.1 (by decide) q15 (by decide) (fun q => ?_) (fun q => ?_)
          · replace h := h.1 q
            refine R_aload_n e_X11_duelStep_2.2.2.2.1 0 rfl ?_
            refine R_getA 11 8 31 e_X11_duelStep_2.2.2.2.2.1 f_X11_47 kx_0 (fun _ _ => rfl) rx_0_8 (by decide) ?_
            refine R_aload_n e_X11_duelStep_2.2.2.2.2.2.1 0 rfl ?_
            refine R_getA 11 7 5 e_X11_duelStep_2.2.2.2.2.2.2.1 f_X11_43 kx_0 (fun _ _ => rfl) rx_0_7 (by decide) ?_
            refine R_callV (mc := 0) (ms := 0) (mc' := 0) (ms' := 0) (M' := M_X0_copy) (d' := 1) (as := [vA G 5]) (st := []) 0 1 e_X11_duelStep_2.2.2.2.2.2.2.2.1 (kCVof m_X0_copy l_X11_167) rfl (by decide) (kC_self isC_31) (by decide) (by decide) rfl rfl (by show (0 : Nat) ≤ 8; decide) ?_
            refine Run.mono h (fun r18 s19 h => ?_)
            refine R_eqs (st2 := []) rfl rfl ?_
            refine R_aload_n e_X11_duelStep_2.2.2.2.2.2.2.2.2.1 0 rfl ?_
            refine R_getA 11 15 82 e_X11_duelStep_2.2.2.2.2.2.2.2.2.2 f_X11_93 kx_0 (fun _ _ => rfl) rx_0_15 (by decide) ?_
            refine R_iload_n e_X11_duelStep_3.1 1 rfl ?_
            refine R_iload_n e_X11_duelStep_3.2.1 2 rfl ?_
            refine R_iload_n e_X11_duelStep_3.2.2.1 3 rfl ?_
            refine R_callV (mc := 0) (ms := 0) (mc' := 0) (ms' := 0) (M' := M_X5_seekDuel) (d' := 21) (as := [vI l1, vI l2, vI l3]) (st := []) 5 3 e_X11_duelStep_3.2.2.2.1 (kCVof m_X5_seekDuel l_X11_441) rfl (by decide) kx_82 (by decide) (by decide) rfl rfl (by show (0 : Nat) ≤ 8; decide) ?_
            refine Run.mono h (fun r20 s21 h => ?_)
            refine R_eqs (st2 := []) rfl rfl ?_
            refine R_aload_n e_X11_duelStep_3.2.2.2.2.1 0 rfl ?_
            refine R_aload_n e_X11_duelStep_3.2.2.2.2.2.1 0 rfl ?_
            refine R_getA 11 15 82 e_X11_duelStep_3.2.2.2.2.2.2.1 f_X11_93 kx_0 (fun _ _ => rfl) rx_0_15 (by decide) ?_
            refine R_getA 5 13 86 e_X11_duelStep_3.2.2.2.2.2.2.2.1 f_X11_448 kx_82 (fun _ _ => rfl) rx_82_13 (by decide) ?_
            refine R_iload_n e_X11_duelStep_3.2.2.2.2.2.2.2.2.1 3 rfl ?_
            obtain ⟨q22, h⟩ := h
            refine R_iald 5 e_X11_duelStep_3.2.2.2.2.2.2.2.2.2 kxa_86 q22 ?_
            refine R_callV (mc := 0) (ms := 0) (mc' := 0) (ms' := 0) (M' := M_X11_give) (d' := 0) (as := [vI (s21 86 l3)]) (st := []) 11 1 e_X11_duelStep_4.1 (kCVof m_X11_give l_X11_176) rfl (by decide) kx_0 (by decide) (by decide) rfl rfl (by show (0 : Nat) ≤ 8; decide) ?_
            refine Run.mono h (fun r23 s24 h => ?_)
            refine R_eqs (st2 := [vI r23]) rfl rfl ?_
            exact R_ireturn e_X11_duelStep_4.2 rfl h
          · replace h := h.2 q
            refine R_aload_n e_X11_duelStep_1.2.2.2.2.2.2.2.2.2 0 rfl ?_
            refine R_iconst e_X11_duelStep_2.1 ?_
            refine R_callV (mc := 0) (ms := 0) (mc' := 0) (ms' := 0) (M' := M_X11_deny) (d' := 0) (as := [vI 1]) (st := []) 11 1 e_X11_duelStep_2.2.1 (kCVof m_X11_deny l_X11_132) rfl (by decide) kx_0 (by decide) (by decide) rfl rfl (by show (0 : Nat) ≤ 8; decide) ?_
            refine Run.mono h (fun r25 s26 h => ?_)
            refine R_eqs (st2 := [vI r25]) rfl rfl ?_
            exact R_ireturn e_X11_duelStep_2.2.2.1 rfl h
/-! KiteLand.needed()I -/
theorem e_X11_needed_0 : decode cX11_needed 0 = .ok (.aload_n 0, 1) ∧ decode cX11_needed 1 = .ok (.invokevirtual 215, 3) ∧ decode cX11_needed 4 = .ok (.iconst (-1), 1) ∧ decode cX11_needed 5 = .ok (.istore_n 1, 1) ∧ decode cX11_needed 6 = .ok (.iconst (-1), 1) ∧ decode cX11_needed 7 = .ok (.istore_n 2, 1) ∧ decode cX11_needed 8 = .ok (.iconst 0, 1) ∧ decode cX11_needed 9 = .ok (.istore_n 3, 1) ∧ decode cX11_needed 10 = .ok (.iload_n 3, 1) ∧ decode cX11_needed 11 = .ok (.aload_n 0, 1) := by decide +kernel
theorem e_X11_needed_1 : decode cX11_needed 12 = .ok (.getfield 43, 3) ∧ decode cX11_needed 15 = .ok (.getfield 173, 3) ∧ decode cX11_needed 18 = .ok (.if_icmp .ge 41, 3) ∧ decode cX11_needed 21 = .ok (.aload_n 0, 1) ∧ decode cX11_needed 22 = .ok (.getfield 64, 3) ∧ decode cX11_needed 25 = .ok (.iload_n 3, 1) ∧ decode cX11_needed 26 = .ok (.invokevirtual 312, 3) ∧ decode cX11_needed 29 = .ok (.ifCond .eq 24, 3) ∧ decode cX11_needed 32 = .ok (.aload_n 0, 1) ∧ decode cX11_needed 33 = .ok (.getfield 64, 3) := by decide +kernel
theorem e_X11_needed_2 : decode cX11_needed 36 = .ok (.iload_n 3, 1) ∧ decode cX11_needed 37 = .ok (.invokevirtual 451, 3) ∧ decode cX11_needed 40 = .ok (.istore 4, 2) ∧ decode cX11_needed 42 = .ok (.iload 4, 2) ∧ decode cX11_needed 44 = .ok (.iload_n 2, 1) ∧ decode cX11_needed 45 = .ok (.if_icmp .le 8, 3) ∧ decode cX11_needed 48 = .ok (.iload 4, 2) ∧ decode cX11_needed 50 = .ok (.istore_n 2, 1) ∧ decode cX11_needed 51 = .ok (.iload_n 3, 1) ∧ decode cX11_needed 52 = .ok (.istore_n 1, 1) := by decide +kernel
theorem e_X11_needed_3 : decode cX11_needed 53 = .ok (.iinc 3 1, 3) ∧ decode cX11_needed 56 = .ok (.goto (-46), 3) ∧ decode cX11_needed 59 = .ok (.iload_n 1, 1) ∧ decode cX11_needed 60 = .ok (.iconst (-1), 1) ∧ decode cX11_needed 61 = .ok (.if_icmp .ne 12, 3) ∧ decode cX11_needed 64 = .ok (.aload_n 0, 1) ∧ decode cX11_needed 65 = .ok (.bipush 6, 2) ∧ decode cX11_needed 67 = .ok (.invokevirtual 132, 3) ∧ decode cX11_needed 70 = .ok (.goto 8, 3) ∧ decode cX11_needed 73 = .ok (.aload_n 0, 1) := by decide +kernel
theorem e_X11_needed_4 : decode cX11_needed 74 = .ok (.iload_n 1, 1) ∧ decode cX11_needed 75 = .ok (.invokevirtual 176, 3) ∧ decode cX11_needed 78 = .ok (.ireturn, 1) := by decide +kernel
abbrev E_X11_needed_10 (G : Kg) (l1 l2 l3 : Int) (σ : Kmem) (Q : Int → Kmem → Prop) : Prop := Ex G WX M_X11_needed 5 0 0 10 [(0, vA G 0), (1, vI l1), (2, vI l2), (3, vI l3)] [] σ Q
theorem S_X11_needed {G : Kg} {σ : Kmem} {Q : Int → Kmem → Prop}  (h : Run G WX M_X11_lookNow 4 0 0 [vA G 0] σ (fun r1 s2 => E_X11_needed_10 G (-1) (-1) 0 s2 Q)) : Run G WX M_X11_needed 5 0 0 [vA G 0] σ Q := by
  refine Run.of (by decide +kernel) (by show (1 : Nat) ≤ 5; decide) ?_
  show Ex G WX M_X11_needed 5 0 0 0 [(0, vA G 0)] [] σ Q
  refine R_aload_n e_X11_needed_0.1 0 rfl ?_
  refine R_callV (mc := 0) (ms := 0) (mc' := 0) (ms' := 0) (M' := M_X11_lookNow) (d' := 4) (as := []) (st := []) 11 0 e_X11_needed_0.2.1 (kCVof m_X11_lookNow l_X11_215) rfl (by decide) kx_0 (by decide) (by decide) rfl rfl (by show (0 : Nat) ≤ 8; decide) ?_
  refine Run.mono h (fun r1 s2 h => ?_)
  refine R_eqs (st2 := []) rfl rfl ?_
  refine R_iconst e_X11_needed_0.2.2.1 ?_
  refine R_istore_n (ls2 := [(1, vI (-1)), (0, vA G 0)]) e_X11_needed_0.2.2.2.1 (by decide) rfl ?_
  refine R_iconst e_X11_needed_0.2.2.2.2.1 ?_
  refine R_istore_n (ls2 := [(2, vI (-1)), (1, vI (-1)), (0, vA G 0)]) e_X11_needed_0.2.2.2.2.2.1 (by decide) rfl ?_
  refine R_iconst e_X11_needed_0.2.2.2.2.2.2.1 ?_
  refine R_istore_n (ls2 := [(3, vI 0), (2, vI (-1)), (1, vI (-1)), (0, vA G 0)]) e_X11_needed_0.2.2.2.2.2.2.2.1 (by decide) rfl ?_
  refine R_ls (ls2 := [(0, vA G 0), (1, vI (-1)), (2, vI (-1)), (3, vI 0)]) [3, 2, 1, 0] rfl ?_
  exact h
theorem S_X11_needed_10 {G : Kg} {σ : Kmem} {Q : Int → Kmem → Prop} {l1 l2 l3 : Int}  (h : (rI l3) ∧ (rI (σ 5 5)) ∧ ((σ 5 5 ≤ l3 → (rI l1) ∧ ((l1 ≠ -1 → Run G WX M_X11_give 0 0 0 [vA G 0, vI l1] σ (fun r6 s7 => Q r6 s7)) ∧ (l1 = -1 → Run G WX M_X11_deny 0 0 0 [vA G 0, vI 6] σ (fun r8 s9 => Q r8 s9)))) ∧ (l3 < σ 5 5 → Run G WX M_X8_isUp 0 0 0 [vA G 58, vI l3] σ (fun r10 s11 => (rI r10) ∧ ((r10 = 0 → E_X11_needed_10 G l1 l2 (l3 + 1) s11 Q) ∧ (r10 ≠ 0 → Run G WX M_X8_shadedAloneBy 0 0 0 [vA G 58, vI l3] s11 (fun r13 s14 => (rI r13) ∧ (rI l2) ∧ ((r13 ≤ l2 → E_X11_needed_10 G l1 l2 (l3 + 1) s14 Q) ∧ (l2 < r13 → E_X11_needed_10 G l3 r13 (l3 + 1) s14 Q))))))))) : E_X11_needed_10 G l1 l2 l3 σ Q := by
  refine R_iload_n e_X11_needed_0.2.2.2.2.2.2.2.2.1 3 rfl ?_
  refine R_aload_n e_X11_needed_0.2.2.2.2.2.2.2.2.2 0 rfl ?_
  refine R_getA 11 7 5 e_X11_needed_1.1 f_X11_43 kx_0 (fun _ _ => rfl) rx_0_7 (by decide) ?_
  refine R_getI 0 5 5 e_X11_needed_1.2.1 f_X11_173 (kC_self isC_5) (fun _ _ => rfl) rfl ?_
  obtain ⟨q3, h⟩ := h
  obtain ⟨q4, h⟩ := h
  refine R_icmp_ge 59 e_X11_needed_1.2.2.1 (by decide) q3 q4 (fun q => ?_) (fun q => ?_)
  · replace h := h.1 q
    refine R_iload_n e_X11_needed_3.2.2.1 1 rfl ?_
    refine R_iconst e_X11_needed_3.2.2.2.1 ?_
    obtain ⟨q5, h⟩ := h
    refine R_icmp_ne 73 e_X11_needed_3.2.2.2.2.1 (by decide) q5 (by decide) (fun q => ?_) (fun q => ?_)
    · replace h := h.1 q
      refine R_aload_n e_X11_needed_3.2.2.2.2.2.2.2.2.2 0 rfl ?_
      refine R_iload_n e_X11_needed_4.1 1 rfl ?_
      refine R_callV (mc := 0) (ms := 0) (mc' := 0) (ms' := 0) (M' := M_X11_give) (d' := 0) (as := [vI l1]) (st := []) 11 1 e_X11_needed_4.2.1 (kCVof m_X11_give l_X11_176) rfl (by decide) kx_0 (by decide) (by decide) rfl rfl (by show (0 : Nat) ≤ 8; decide) ?_
      refine Run.mono h (fun r6 s7 h => ?_)
      refine R_eqs (st2 := [vI r6]) rfl rfl ?_
      exact R_ireturn e_X11_needed_4.2.2 rfl h
    · replace h := h.2 q
      refine R_aload_n e_X11_needed_3.2.2.2.2.2.1 0 rfl ?_
      refine R_bipush e_X11_needed_3.2.2.2.2.2.2.1 (by decide) ?_
      refine R_callV (mc := 0) (ms := 0) (mc' := 0) (ms' := 0) (M' := M_X11_deny) (d' := 0) (as := [vI 6]) (st := []) 11 1 e_X11_needed_3.2.2.2.2.2.2.2.1 (kCVof m_X11_deny l_X11_132) rfl (by decide) kx_0 (by decide) (by decide) rfl rfl (by show (0 : Nat) ≤ 8; decide) ?_
      refine Run.mono h (fun r8 s9 h => ?_)
      refine R_eqs (st2 := [vI r8]) rfl rfl ?_
      refine R_goto 78 e_X11_needed_3.2.2.2.2.2.2.2.2.1 (by decide) ?_
      exact R_ireturn e_X11_needed_4.2.2 rfl h
  · replace h := h.2 q
    refine R_aload_n e_X11_needed_1.2.2.2.1 0 rfl ?_
    refine R_getA 11 10 58 e_X11_needed_1.2.2.2.2.1 f_X11_64 kx_0 (fun _ _ => rfl) rx_0_10 (by decide) ?_
    refine R_iload_n e_X11_needed_1.2.2.2.2.2.1 3 rfl ?_
    refine R_callV (mc := 0) (ms := 0) (mc' := 0) (ms' := 0) (M' := M_X8_isUp) (d' := 0) (as := [vI l3]) (st := []) 8 1 e_X11_needed_1.2.2.2.2.2.2.1 (kCVof m_X8_isUp l_X11_312) rfl (by decide) kx_58 (by decide) (by decide) rfl rfl (by show (0 : Nat) ≤ 8; decide) ?_
    refine Run.mono h (fun r10 s11 h => ?_)
    refine R_eqs (st2 := [vI r10]) rfl rfl ?_
    obtain ⟨q12, h⟩ := h
    refine R_if_eq 53 e_X11_needed_1.2.2.2.2.2.2.2.1 (by decide) q12  (fun q => ?_) (fun q => ?_)
    · replace h := h.1 q
      refine R_iinc (ls2 := [(3, vI (l3 + 1)), (0, vA G 0), (1, vI l1), (2, vI l2)]) e_X11_needed_3.1 3 rfl (by decide) rfl ?_
      refine R_goto 10 e_X11_needed_3.2.1 (by decide) ?_
      refine R_ls (ls2 := [(0, vA G 0), (1, vI l1), (2, vI l2), (3, vI (l3 + 1))]) [1, 2, 3, 0] rfl ?_
      exact h
    · replace h := h.2 q
      refine R_aload_n e_X11_needed_1.2.2.2.2.2.2.2.2.1 0 rfl ?_
      refine R_getA 11 10 58 e_X11_needed_1.2.2.2.2.2.2.2.2.2 f_X11_64 kx_0 (fun _ _ => rfl) rx_0_10 (by decide) ?_
      refine R_iload_n e_X11_needed_2.1 3 rfl ?_
      refine R_callV (mc := 0) (ms := 0) (mc' := 0) (ms' := 0) (M' := M_X8_shadedAloneBy) (d' := 0) (as := [vI l3]) (st := []) 8 1 e_X11_needed_2.2.1 (kCVof m_X8_shadedAloneBy l_X11_451) rfl (by decide) kx_58 (by decide) (by decide) rfl rfl (by show (0 : Nat) ≤ 8; decide) ?_
      refine Run.mono h (fun r13 s14 h => ?_)
      refine R_eqs (st2 := [vI r13]) rfl rfl ?_
      refine R_istore (ls2 := [(4, vI r13), (0, vA G 0), (1, vI l1), (2, vI l2), (3, vI l3)]) e_X11_needed_2.2.2.1 (by decide) rfl ?_
      refine R_iload e_X11_needed_2.2.2.2.1 0 rfl ?_
      refine R_iload_n e_X11_needed_2.2.2.2.2.1 3 rfl ?_
      obtain ⟨q15, h⟩ := h
      obtain ⟨q16, h⟩ := h
      refine R_icmp_le 53 e_X11_needed_2.2.2.2.2.2.1 (by decide) q15 q16 (fun q => ?_) (fun q => ?_)
      · replace h := h.1 q
        refine R_iinc (ls2 := [(3, vI (l3 + 1)), (4, vI r13), (0, vA G 0), (1, vI l1), (2, vI l2)]) e_X11_needed_3.1 4 rfl (by decide) rfl ?_
        refine R_goto 10 e_X11_needed_3.2.1 (by decide) ?_
        refine R_ls (ls2 := [(0, vA G 0), (1, vI l1), (2, vI l2), (3, vI (l3 + 1))]) [2, 3, 4, 0] rfl ?_
        exact h
      · replace h := h.2 q
        refine R_iload e_X11_needed_2.2.2.2.2.2.2.1 0 rfl ?_
        refine R_istore_n (ls2 := [(2, vI r13), (4, vI r13), (0, vA G 0), (1, vI l1), (3, vI l3)]) e_X11_needed_2.2.2.2.2.2.2.2.1 (by decide) rfl ?_
        refine R_iload_n e_X11_needed_2.2.2.2.2.2.2.2.2.1 4 rfl ?_
        refine R_istore_n (ls2 := [(1, vI l3), (2, vI r13), (4, vI r13), (0, vA G 0), (3, vI l3)]) e_X11_needed_2.2.2.2.2.2.2.2.2.2 (by decide) rfl ?_
        refine R_iinc (ls2 := [(3, vI (l3 + 1)), (1, vI l3), (2, vI r13), (4, vI r13), (0, vA G 0)]) e_X11_needed_3.1 4 rfl (by decide) rfl ?_
        refine R_goto 10 e_X11_needed_3.2.1 (by decide) ?_
        refine R_ls (ls2 := [(0, vA G 0), (1, vI l3), (2, vI r13), (3, vI (l3 + 1))]) [4, 1, 2, 0] rfl ?_
        exact h
/-! KiteLand.share(I)Z -/
theorem e_X11_share_0 : decode cX11_share 0 = .ok (.aload_n 0, 1) ∧ decode cX11_share 1 = .ok (.getfield 43, 3) ∧ decode cX11_share 4 = .ok (.iload_n 1, 1) ∧ decode cX11_share 5 = .ok (.invokevirtual 238, 3) ∧ decode cX11_share 8 = .ok (.ifCond .ne 9, 3) ∧ decode cX11_share 11 = .ok (.aload_n 0, 1) ∧ decode cX11_share 12 = .ok (.iconst 1, 1) ∧ decode cX11_share 13 = .ok (.invokevirtual 113, 3) ∧ decode cX11_share 16 = .ok (.ireturn, 1) ∧ decode cX11_share 17 = .ok (.lconst 0, 1) := by decide +kernel
theorem e_X11_share_1 : decode cX11_share 18 = .ok (.lstore_n 2, 1) ∧ decode cX11_share 19 = .ok (.iconst 0, 1) ∧ decode cX11_share 20 = .ok (.istore 4, 2) ∧ decode cX11_share 22 = .ok (.iload 4, 2) ∧ decode cX11_share 24 = .ok (.aload_n 0, 1) ∧ decode cX11_share 25 = .ok (.getfield 43, 3) ∧ decode cX11_share 28 = .ok (.getfield 173, 3) ∧ decode cX11_share 31 = .ok (.if_icmp .ge 26, 3) ∧ decode cX11_share 34 = .ok (.lload_n 2, 1) ∧ decode cX11_share 35 = .ok (.aload_n 0, 1) := by decide +kernel
theorem e_X11_share_2 : decode cX11_share 36 = .ok (.getfield 43, 3) ∧ decode cX11_share 39 = .ok (.getfield 241, 3) ∧ decode cX11_share 42 = .ok (.iload 4, 2) ∧ decode cX11_share 44 = .ok (.aaload, 1) ∧ decode cX11_share 45 = .ok (.getfield 262, 3) ∧ decode cX11_share 48 = .ok (.i2l, 1) ∧ decode cX11_share 49 = .ok (.ladd, 1) ∧ decode cX11_share 50 = .ok (.lstore_n 2, 1) ∧ decode cX11_share 51 = .ok (.iinc 4 1, 3) ∧ decode cX11_share 54 = .ok (.goto (-32), 3) := by decide +kernel
theorem e_X11_share_3 : decode cX11_share 57 = .ok (.lload_n 2, 1) ∧ decode cX11_share 58 = .ok (.lconst 0, 1) ∧ decode cX11_share 59 = .ok (.lcmp, 1) ∧ decode cX11_share 60 = .ok (.ifCond .ne 10, 3) ∧ decode cX11_share 63 = .ok (.aload_n 0, 1) ∧ decode cX11_share 64 = .ok (.bipush 6, 2) ∧ decode cX11_share 66 = .ok (.invokevirtual 113, 3) ∧ decode cX11_share 69 = .ok (.ireturn, 1) ∧ decode cX11_share 70 = .ok (.aload_n 0, 1) ∧ decode cX11_share 71 = .ok (.aload_n 0, 1) := by decide +kernel
theorem e_X11_share_4 : decode cX11_share 72 = .ok (.getfield 43, 3) ∧ decode cX11_share 75 = .ok (.getfield 241, 3) ∧ decode cX11_share 78 = .ok (.iload_n 1, 1) ∧ decode cX11_share 79 = .ok (.aaload, 1) ∧ decode cX11_share 80 = .ok (.getfield 262, 3) ∧ decode cX11_share 83 = .ok (.i2l, 1) ∧ decode cX11_share 84 = .ok (.lload_n 2, 1) ∧ decode cX11_share 85 = .ok (.invokevirtual 454, 3) ∧ decode cX11_share 88 = .ok (.aload_n 0, 1) ∧ decode cX11_share 89 = .ok (.invokevirtual 120, 3) := by decide +kernel
theorem e_X11_share_5 : decode cX11_share 92 = .ok (.ireturn, 1) := by decide +kernel
abbrev E_X11_share_22 (G : Kg) (l1 l2 l4 : Int) (σ : Kmem) (Q : Int → Kmem → Prop) : Prop := Ex G WX M_X11_share 1 0 0 22 [(0, vA G 0), (1, vI l1), (2, vL l2), (4, vI l4)] [] σ Q
theorem S_X11_share {G : Kg} {σ : Kmem} {Q : Int → Kmem → Prop} {l1 : Int}  (h : Run G WX M_X0_hasKite 0 0 0 [vA G 5, vI l1] σ (fun r1 s2 => (rI r1) ∧ ((r1 ≠ 0 → E_X11_share_22 G l1 0 0 s2 Q) ∧ (r1 = 0 → Run G WX M_X11_refuse 0 0 0 [vA G 0, vI 1] s2 (fun r4 s5 => (r4 = 0 ∨ r4 = 1) ∧ Q r4 s5))))) : Run G WX M_X11_share 1 0 0 [vA G 0, vI l1] σ Q := by
  refine Run.of (by decide +kernel) (by show (2 : Nat) ≤ 5; decide) ?_
  show Ex G WX M_X11_share 1 0 0 0 [(0, vA G 0), (1, vI l1)] [] σ Q
  refine R_aload_n e_X11_share_0.1 0 rfl ?_
  refine R_getA 11 7 5 e_X11_share_0.2.1 f_X11_43 kx_0 (fun _ _ => rfl) rx_0_7 (by decide) ?_
  refine R_iload_n e_X11_share_0.2.2.1 1 rfl ?_
  refine R_callV (mc := 0) (ms := 0) (mc' := 0) (ms' := 0) (M' := M_X0_hasKite) (d' := 0) (as := [vI l1]) (st := []) 0 1 e_X11_share_0.2.2.2.1 (kCVof m_X0_hasKite l_X11_238) rfl (by decide) (kC_self isC_5) (by decide) (by decide) rfl rfl (by show (0 : Nat) ≤ 8; decide) ?_
  refine Run.mono h (fun r1 s2 h => ?_)
  refine R_eqs (st2 := [vI r1]) rfl rfl ?_
  obtain ⟨q3, h⟩ := h
  refine R_if_ne 17 e_X11_share_0.2.2.2.2.1 (by decide) q3  (fun q => ?_) (fun q => ?_)
  · replace h := h.1 q
    refine R_lconst 0 e_X11_share_0.2.2.2.2.2.2.2.2.2 (by decide) ?_
    refine R_lstore_n (ls2 := [(2, vL 0), (0, vA G 0), (1, vI l1)]) e_X11_share_1.1 (by decide) rfl ?_
    refine R_iconst e_X11_share_1.2.1 ?_
    refine R_istore (ls2 := [(4, vI 0), (2, vL 0), (0, vA G 0), (1, vI l1)]) e_X11_share_1.2.2.1 (by decide) rfl ?_
    refine R_ls (ls2 := [(0, vA G 0), (1, vI l1), (2, vL 0), (4, vI 0)]) [2, 3, 1, 0] rfl ?_
    exact h
  · replace h := h.2 q
    refine R_aload_n e_X11_share_0.2.2.2.2.2.1 0 rfl ?_
    refine R_iconst e_X11_share_0.2.2.2.2.2.2.1 ?_
    refine R_callV (mc := 0) (ms := 0) (mc' := 0) (ms' := 0) (M' := M_X11_refuse) (d' := 0) (as := [vI 1]) (st := []) 11 1 e_X11_share_0.2.2.2.2.2.2.2.1 (kCVof m_X11_refuse l_X11_113) rfl (by decide) kx_0 (by decide) (by decide) rfl rfl (by show (0 : Nat) ≤ 8; decide) ?_
    refine Run.mono h (fun r4 s5 h => ?_)
    refine R_eqs (st2 := [vI r4]) rfl rfl ?_
    obtain ⟨q6, h⟩ := h
    exact R_zreturn e_X11_share_0.2.2.2.2.2.2.2.2.1 rfl q6 h
theorem S_X11_share_22 {G : Kg} {σ : Kmem} {Q : Int → Kmem → Prop} {l1 l2 l4 : Int}  (h : (rI l4) ∧ (rI (σ 5 5)) ∧ ((σ 5 5 ≤ l4 → (rL l2) ∧ ((l2 ≠ 0 → (0 ≤ l1 ∧ l1 < 6) ∧ (rI (σ (5 + 6 + l1) 7)) ∧ Run G WX M_X11_tellFraction 0 0 0 [vA G 0, vL (σ (5 + 6 + l1) 7), vL l2] σ (fun r12 s13 => Run G WX M_X11_grant 0 0 0 [vA G 0] s13 (fun r14 s15 => (r14 = 0 ∨ r14 = 1) ∧ Q r14 s15))) ∧ (l2 = 0 → Run G WX M_X11_refuse 0 0 0 [vA G 0, vI 6] σ (fun r17 s18 => (r17 = 0 ∨ r17 = 1) ∧ Q r17 s18)))) ∧ (l4 < σ 5 5 → (0 ≤ l4 ∧ l4 < 6) ∧ (rI (σ (5 + 6 + l4) 7)) ∧ E_X11_share_22 G l1 (l2 + (σ (5 + 6 + l4) 7)) (l4 + 1) σ Q))) : E_X11_share_22 G l1 l2 l4 σ Q := by
  refine R_iload e_X11_share_1.2.2.2.1 3 rfl ?_
  refine R_aload_n e_X11_share_1.2.2.2.2.1 0 rfl ?_
  refine R_getA 11 7 5 e_X11_share_1.2.2.2.2.2.1 f_X11_43 kx_0 (fun _ _ => rfl) rx_0_7 (by decide) ?_
  refine R_getI 0 5 5 e_X11_share_1.2.2.2.2.2.2.1 f_X11_173 (kC_self isC_5) (fun _ _ => rfl) rfl ?_
  obtain ⟨q7, h⟩ := h
  obtain ⟨q8, h⟩ := h
  refine R_icmp_ge 57 e_X11_share_1.2.2.2.2.2.2.2.1 (by decide) q7 q8 (fun q => ?_) (fun q => ?_)
  · replace h := h.1 q
    refine R_lload_n e_X11_share_3.1 2 rfl ?_
    refine R_lconst 0 e_X11_share_3.2.1 (by decide) ?_
    obtain ⟨q9, h⟩ := h
    refine R_lcmp e_X11_share_3.2.2.1 q9 (by decide) ?_
    refine R_if_ne 70 e_X11_share_3.2.2.2.1 (by decide) (kcmp_r _ _) (fun q => ?_) (fun q => ?_)
    · replace h := h.1 (kcmp_ne_t.mp q)
      refine R_aload_n e_X11_share_3.2.2.2.2.2.2.2.2.1 0 rfl ?_
      refine R_aload_n e_X11_share_3.2.2.2.2.2.2.2.2.2 0 rfl ?_
      refine R_getA 11 7 5 e_X11_share_4.1 f_X11_43 kx_0 (fun _ _ => rfl) rx_0_7 (by decide) ?_
      refine R_getA 0 10 (5 + 3) e_X11_share_4.2.1 f_X11_241 (kC_self isC_5) (fun _ _ => rfl) (kC_r10 isC_5) (kC_n3 isC_5) ?_
      refine R_iload_n e_X11_share_4.2.2.1 1 rfl ?_
      obtain ⟨q10, h⟩ := h
      refine R_aald 27 6 (5 + 6 + l1) e_X11_share_4.2.2.2.1 (by decide) (kC_kites isC_5) q10 (kC_kiteAt isC_5 q10) (kC_kiteN isC_5 q10) ?_
      refine R_getI 3 7 7 e_X11_share_4.2.2.2.2.1 f_X11_262 (kC_kite isC_5 q10) (fun _ _ => rfl) rfl ?_
      obtain ⟨q11, h⟩ := h
      refine R_i2l e_X11_share_4.2.2.2.2.2.1 q11 ?_
      refine R_lload_n e_X11_share_4.2.2.2.2.2.2.1 2 rfl ?_
      refine R_callV (mc := 0) (ms := 0) (mc' := 0) (ms' := 0) (M' := M_X11_tellFraction) (d' := 0) (as := [vL (σ (5 + 6 + l1) 7), vL l2]) (st := []) 11 2 e_X11_share_4.2.2.2.2.2.2.2.1 (kCVof m_X11_tellFraction l_X11_454) rfl (by decide) kx_0 (by decide) (by decide) rfl rfl (by show (0 : Nat) ≤ 8; decide) ?_
      refine Run.mono h (fun r12 s13 h => ?_)
      refine R_eqs (st2 := []) rfl rfl ?_
      refine R_aload_n e_X11_share_4.2.2.2.2.2.2.2.2.1 0 rfl ?_
      refine R_callV (mc := 0) (ms := 0) (mc' := 0) (ms' := 0) (M' := M_X11_grant) (d' := 0) (as := []) (st := []) 11 0 e_X11_share_4.2.2.2.2.2.2.2.2.2 (kCVof m_X11_grant l_X11_120) rfl (by decide) kx_0 (by decide) (by decide) rfl rfl (by show (0 : Nat) ≤ 8; decide) ?_
      refine Run.mono h (fun r14 s15 h => ?_)
      refine R_eqs (st2 := [vI r14]) rfl rfl ?_
      obtain ⟨q16, h⟩ := h
      exact R_zreturn e_X11_share_5 rfl q16 h
    · replace h := h.2 (kcmp_ne_f.mp q)
      refine R_aload_n e_X11_share_3.2.2.2.2.1 0 rfl ?_
      refine R_bipush e_X11_share_3.2.2.2.2.2.1 (by decide) ?_
      refine R_callV (mc := 0) (ms := 0) (mc' := 0) (ms' := 0) (M' := M_X11_refuse) (d' := 0) (as := [vI 6]) (st := []) 11 1 e_X11_share_3.2.2.2.2.2.2.1 (kCVof m_X11_refuse l_X11_113) rfl (by decide) kx_0 (by decide) (by decide) rfl rfl (by show (0 : Nat) ≤ 8; decide) ?_
      refine Run.mono h (fun r17 s18 h => ?_)
      refine R_eqs (st2 := [vI r17]) rfl rfl ?_
      obtain ⟨q19, h⟩ := h
      exact R_zreturn e_X11_share_3.2.2.2.2.2.2.2.1 rfl q19 h
  · replace h := h.2 q
    refine R_lload_n e_X11_share_1.2.2.2.2.2.2.2.2.1 2 rfl ?_
    refine R_aload_n e_X11_share_1.2.2.2.2.2.2.2.2.2 0 rfl ?_
    refine R_getA 11 7 5 e_X11_share_2.1 f_X11_43 kx_0 (fun _ _ => rfl) rx_0_7 (by decide) ?_
    refine R_getA 0 10 (5 + 3) e_X11_share_2.2.1 f_X11_241 (kC_self isC_5) (fun _ _ => rfl) (kC_r10 isC_5) (kC_n3 isC_5) ?_
    refine R_iload e_X11_share_2.2.2.1 3 rfl ?_
    obtain ⟨q20, h⟩ := h
    refine R_aald 27 6 (5 + 6 + l4) e_X11_share_2.2.2.2.1 (by decide) (kC_kites isC_5) q20 (kC_kiteAt isC_5 q20) (kC_kiteN isC_5 q20) ?_
    refine R_getI 3 7 7 e_X11_share_2.2.2.2.2.1 f_X11_262 (kC_kite isC_5 q20) (fun _ _ => rfl) rfl ?_
    obtain ⟨q21, h⟩ := h
    refine R_i2l e_X11_share_2.2.2.2.2.2.1 q21 ?_
    refine R_ladd e_X11_share_2.2.2.2.2.2.2.1 ?_
    refine R_lstore_n (ls2 := [(2, vL (l2 + (σ (5 + 6 + l4) 7))), (0, vA G 0), (1, vI l1), (4, vI l4)]) e_X11_share_2.2.2.2.2.2.2.2.1 (by decide) rfl ?_
    refine R_iinc (ls2 := [(4, vI (l4 + 1)), (2, vL (l2 + (σ (5 + 6 + l4) 7))), (0, vA G 0), (1, vI l1)]) e_X11_share_2.2.2.2.2.2.2.2.2.1 3 rfl (by decide) rfl ?_
    refine R_goto 22 e_X11_share_2.2.2.2.2.2.2.2.2.2 (by decide) ?_
    refine R_ls (ls2 := [(0, vA G 0), (1, vI l1), (2, vL (l2 + (σ (5 + 6 + l4) 7))), (4, vI (l4 + 1))]) [2, 3, 1, 0] rfl ?_
    exact h
/-! KiteLand.shaded()Z -/
theorem e_X11_shaded_0 : decode cX11_shaded 0 = .ok (.aload_n 0, 1) ∧ decode cX11_shaded 1 = .ok (.getfield 43, 3) ∧ decode cX11_shaded 4 = .ok (.invokevirtual 346, 3) ∧ decode cX11_shaded 7 = .ok (.ifCond .ne 10, 3) ∧ decode cX11_shaded 10 = .ok (.aload_n 0, 1) ∧ decode cX11_shaded 11 = .ok (.bipush 6, 2) ∧ decode cX11_shaded 13 = .ok (.invokevirtual 113, 3) ∧ decode cX11_shaded 16 = .ok (.ireturn, 1) ∧ decode cX11_shaded 17 = .ok (.lconst 0, 1) ∧ decode cX11_shaded 18 = .ok (.lstore_n 1, 1) := by decide +kernel
theorem e_X11_shaded_1 : decode cX11_shaded 19 = .ok (.iconst 0, 1) ∧ decode cX11_shaded 20 = .ok (.istore_n 3, 1) ∧ decode cX11_shaded 21 = .ok (.iload_n 3, 1) ∧ decode cX11_shaded 22 = .ok (.bipush 12, 2) ∧ decode cX11_shaded 24 = .ok (.if_icmp .ge 32, 3) ∧ decode cX11_shaded 27 = .ok (.aload_n 0, 1) ∧ decode cX11_shaded 28 = .ok (.getfield 64, 3) ∧ decode cX11_shaded 31 = .ok (.aload_n 0, 1) ∧ decode cX11_shaded 32 = .ok (.getfield 43, 3) ∧ decode cX11_shaded 35 = .ok (.iload_n 3, 1) := by decide +kernel
theorem e_X11_shaded_2 : decode cX11_shaded 36 = .ok (.invokevirtual 308, 3) ∧ decode cX11_shaded 39 = .ok (.lload_n 1, 1) ∧ decode cX11_shaded 40 = .ok (.aload_n 0, 1) ∧ decode cX11_shaded 41 = .ok (.getfield 64, 3) ∧ decode cX11_shaded 44 = .ok (.invokevirtual 334, 3) ∧ decode cX11_shaded 47 = .ok (.i2l, 1) ∧ decode cX11_shaded 48 = .ok (.ladd, 1) ∧ decode cX11_shaded 49 = .ok (.lstore_n 1, 1) ∧ decode cX11_shaded 50 = .ok (.iinc 3 1, 3) ∧ decode cX11_shaded 53 = .ok (.goto (-32), 3) := by decide +kernel
theorem e_X11_shaded_3 : decode cX11_shaded 56 = .ok (.aload_n 0, 1) ∧ decode cX11_shaded 57 = .ok (.lload_n 1, 1) ∧ decode cX11_shaded 58 = .ok (.ldc2_w 458, 3) ∧ decode cX11_shaded 61 = .ok (.invokevirtual 454, 3) ∧ decode cX11_shaded 64 = .ok (.aload_n 0, 1) ∧ decode cX11_shaded 65 = .ok (.invokevirtual 120, 3) ∧ decode cX11_shaded 68 = .ok (.ireturn, 1) := by decide +kernel
abbrev E_X11_shaded_21 (G : Kg) (l1 l3 : Int) (σ : Kmem) (Q : Int → Kmem → Prop) : Prop := Ex G WX M_X11_shaded 4 0 0 21 [(0, vA G 0), (1, vL l1), (3, vI l3)] [] σ Q
theorem S_X11_shaded {G : Kg} {σ : Kmem} {Q : Int → Kmem → Prop}  (h : Run G WX M_X0_hasLand 0 0 0 [vA G 5] σ (fun r1 s2 => (rI r1) ∧ ((r1 ≠ 0 → E_X11_shaded_21 G 0 0 s2 Q) ∧ (r1 = 0 → Run G WX M_X11_refuse 0 0 0 [vA G 0, vI 6] s2 (fun r4 s5 => (r4 = 0 ∨ r4 = 1) ∧ Q r4 s5))))) : Run G WX M_X11_shaded 4 0 0 [vA G 0] σ Q := by
  refine Run.of (by decide +kernel) (by show (1 : Nat) ≤ 4; decide) ?_
  show Ex G WX M_X11_shaded 4 0 0 0 [(0, vA G 0)] [] σ Q
  refine R_aload_n e_X11_shaded_0.1 0 rfl ?_
  refine R_getA 11 7 5 e_X11_shaded_0.2.1 f_X11_43 kx_0 (fun _ _ => rfl) rx_0_7 (by decide) ?_
  refine R_callV (mc := 0) (ms := 0) (mc' := 0) (ms' := 0) (M' := M_X0_hasLand) (d' := 0) (as := []) (st := []) 0 0 e_X11_shaded_0.2.2.1 (kCVof m_X0_hasLand l_X11_346) rfl (by decide) (kC_self isC_5) (by decide) (by decide) rfl rfl (by show (0 : Nat) ≤ 8; decide) ?_
  refine Run.mono h (fun r1 s2 h => ?_)
  refine R_eqs (st2 := [vI r1]) rfl rfl ?_
  obtain ⟨q3, h⟩ := h
  refine R_if_ne 17 e_X11_shaded_0.2.2.2.1 (by decide) q3  (fun q => ?_) (fun q => ?_)
  · replace h := h.1 q
    refine R_lconst 0 e_X11_shaded_0.2.2.2.2.2.2.2.2.1 (by decide) ?_
    refine R_lstore_n (ls2 := [(1, vL 0), (0, vA G 0)]) e_X11_shaded_0.2.2.2.2.2.2.2.2.2 (by decide) rfl ?_
    refine R_iconst e_X11_shaded_1.1 ?_
    refine R_istore_n (ls2 := [(3, vI 0), (1, vL 0), (0, vA G 0)]) e_X11_shaded_1.2.1 (by decide) rfl ?_
    refine R_ls (ls2 := [(0, vA G 0), (1, vL 0), (3, vI 0)]) [2, 1, 0] rfl ?_
    exact h
  · replace h := h.2 q
    refine R_aload_n e_X11_shaded_0.2.2.2.2.1 0 rfl ?_
    refine R_bipush e_X11_shaded_0.2.2.2.2.2.1 (by decide) ?_
    refine R_callV (mc := 0) (ms := 0) (mc' := 0) (ms' := 0) (M' := M_X11_refuse) (d' := 0) (as := [vI 6]) (st := []) 11 1 e_X11_shaded_0.2.2.2.2.2.2.1 (kCVof m_X11_refuse l_X11_113) rfl (by decide) kx_0 (by decide) (by decide) rfl rfl (by show (0 : Nat) ≤ 8; decide) ?_
    refine Run.mono h (fun r4 s5 h => ?_)
    refine R_eqs (st2 := [vI r4]) rfl rfl ?_
    obtain ⟨q6, h⟩ := h
    exact R_zreturn e_X11_shaded_0.2.2.2.2.2.2.2.1 rfl q6 h
theorem S_X11_shaded_21 {G : Kg} {σ : Kmem} {Q : Int → Kmem → Prop} {l1 l3 : Int}  (h : (rI l3) ∧ ((12 ≤ l3 → Run G WX M_X11_tellFraction 0 0 0 [vA G 0, vL l1, vL 12] σ (fun r8 s9 => Run G WX M_X11_grant 0 0 0 [vA G 0] s9 (fun r10 s11 => (r10 = 0 ∨ r10 = 1) ∧ Q r10 s11))) ∧ (l3 < 12 → Run G WX M_X8_look 3 0 0 [vA G 58, vA G 5, vI l3] σ (fun r13 s14 => Run G WX M_X8_ownedFields 0 0 0 [vA G 58] s14 (fun r15 s16 => (rI r15) ∧ E_X11_shaded_21 G (l1 + r15) (l3 + 1) s16 Q))))) : E_X11_shaded_21 G l1 l3 σ Q := by
  refine R_iload_n e_X11_shaded_1.2.2.1 2 rfl ?_
  refine R_bipush e_X11_shaded_1.2.2.2.1 (by decide) ?_
  obtain ⟨q7, h⟩ := h
  refine R_icmp_ge 56 e_X11_shaded_1.2.2.2.2.1 (by decide) q7 (by decide) (fun q => ?_) (fun q => ?_)
  · replace h := h.1 q
    refine R_aload_n e_X11_shaded_3.1 0 rfl ?_
    refine R_lload_n e_X11_shaded_3.2.1 1 rfl ?_
    refine R_ldc2 (12) k_X11_458 e_X11_shaded_3.2.2.1 ?_
    refine R_callV (mc := 0) (ms := 0) (mc' := 0) (ms' := 0) (M' := M_X11_tellFraction) (d' := 0) (as := [vL l1, vL 12]) (st := []) 11 2 e_X11_shaded_3.2.2.2.1 (kCVof m_X11_tellFraction l_X11_454) rfl (by decide) kx_0 (by decide) (by decide) rfl rfl (by show (0 : Nat) ≤ 8; decide) ?_
    refine Run.mono h (fun r8 s9 h => ?_)
    refine R_eqs (st2 := []) rfl rfl ?_
    refine R_aload_n e_X11_shaded_3.2.2.2.2.1 0 rfl ?_
    refine R_callV (mc := 0) (ms := 0) (mc' := 0) (ms' := 0) (M' := M_X11_grant) (d' := 0) (as := []) (st := []) 11 0 e_X11_shaded_3.2.2.2.2.2.1 (kCVof m_X11_grant l_X11_120) rfl (by decide) kx_0 (by decide) (by decide) rfl rfl (by show (0 : Nat) ≤ 8; decide) ?_
    refine Run.mono h (fun r10 s11 h => ?_)
    refine R_eqs (st2 := [vI r10]) rfl rfl ?_
    obtain ⟨q12, h⟩ := h
    exact R_zreturn e_X11_shaded_3.2.2.2.2.2.2 rfl q12 h
  · replace h := h.2 q
    refine R_aload_n e_X11_shaded_1.2.2.2.2.2.1 0 rfl ?_
    refine R_getA 11 10 58 e_X11_shaded_1.2.2.2.2.2.2.1 f_X11_64 kx_0 (fun _ _ => rfl) rx_0_10 (by decide) ?_
    refine R_aload_n e_X11_shaded_1.2.2.2.2.2.2.2.1 0 rfl ?_
    refine R_getA 11 7 5 e_X11_shaded_1.2.2.2.2.2.2.2.2.1 f_X11_43 kx_0 (fun _ _ => rfl) rx_0_7 (by decide) ?_
    refine R_iload_n e_X11_shaded_1.2.2.2.2.2.2.2.2.2 2 rfl ?_
    refine R_callV (mc := 0) (ms := 0) (mc' := 0) (ms' := 0) (M' := M_X8_look) (d' := 3) (as := [vA G 5, vI l3]) (st := []) 8 2 e_X11_shaded_2.1 (kCVof m_X8_look l_X11_308) rfl (by decide) kx_58 (by decide) (by decide) rfl rfl (by show (0 : Nat) ≤ 8; decide) ?_
    refine Run.mono h (fun r13 s14 h => ?_)
    refine R_eqs (st2 := []) rfl rfl ?_
    refine R_lload_n e_X11_shaded_2.2.1 1 rfl ?_
    refine R_aload_n e_X11_shaded_2.2.2.1 0 rfl ?_
    refine R_getA 11 10 58 e_X11_shaded_2.2.2.2.1 f_X11_64 kx_0 (fun _ _ => rfl) rx_0_10 (by decide) ?_
    refine R_callV (mc := 0) (ms := 0) (mc' := 0) (ms' := 0) (M' := M_X8_ownedFields) (d' := 0) (as := []) (st := [vL l1]) 8 0 e_X11_shaded_2.2.2.2.2.1 (kCVof m_X8_ownedFields l_X11_334) rfl (by decide) kx_58 (by decide) (by decide) rfl rfl (by show (2 : Nat) ≤ 8; decide) ?_
    refine Run.mono h (fun r15 s16 h => ?_)
    refine R_eqs (st2 := [vI r15, vL l1]) rfl rfl ?_
    obtain ⟨q17, h⟩ := h
    refine R_i2l e_X11_shaded_2.2.2.2.2.2.1 q17 ?_
    refine R_ladd e_X11_shaded_2.2.2.2.2.2.2.1 ?_
    refine R_lstore_n (ls2 := [(1, vL (l1 + r15)), (0, vA G 0), (3, vI l3)]) e_X11_shaded_2.2.2.2.2.2.2.2.1 (by decide) rfl ?_
    refine R_iinc (ls2 := [(3, vI (l3 + 1)), (1, vL (l1 + r15)), (0, vA G 0)]) e_X11_shaded_2.2.2.2.2.2.2.2.2.1 2 rfl (by decide) rfl ?_
    refine R_goto 21 e_X11_shaded_2.2.2.2.2.2.2.2.2.2 (by decide) ?_
    refine R_ls (ls2 := [(0, vA G 0), (1, vL (l1 + r15)), (3, vI (l3 + 1))]) [2, 1, 0] rfl ?_
    exact h
/-! KiteLand.live(I)I -/
theorem e_X11_live_0 : decode cX11_live 0 = .ok (.iload_n 1, 1) ∧ decode cX11_live 1 = .ok (.ifCond .lt 10, 3) ∧ decode cX11_live 4 = .ok (.iload_n 1, 1) ∧ decode cX11_live 5 = .ok (.sipush 9999, 3) ∧ decode cX11_live 8 = .ok (.if_icmp .le 9, 3) ∧ decode cX11_live 11 = .ok (.aload_n 0, 1) ∧ decode cX11_live 12 = .ok (.iconst 1, 1) ∧ decode cX11_live 13 = .ok (.invokevirtual 132, 3) ∧ decode cX11_live 16 = .ok (.ireturn, 1) ∧ decode cX11_live 17 = .ok (.aload_n 0, 1) := by decide +kernel
theorem e_X11_live_1 : decode cX11_live 18 = .ok (.getfield 71, 3) ∧ decode cX11_live 21 = .ok (.getfield 460, 3) ∧ decode cX11_live 24 = .ok (.ifCond .ne 10, 3) ∧ decode cX11_live 27 = .ok (.aload_n 0, 1) ∧ decode cX11_live 28 = .ok (.bipush 6, 2) ∧ decode cX11_live 30 = .ok (.invokevirtual 132, 3) ∧ decode cX11_live 33 = .ok (.ireturn, 1) ∧ decode cX11_live 34 = .ok (.aload_n 0, 1) ∧ decode cX11_live 35 = .ok (.getfield 81, 3) ∧ decode cX11_live 38 = .ok (.aload_n 0, 1) := by decide +kernel
theorem e_X11_live_2 : decode cX11_live 39 = .ok (.getfield 71, 3) ∧ decode cX11_live 42 = .ok (.aload_n 0, 1) ∧ decode cX11_live 43 = .ok (.getfield 43, 3) ∧ decode cX11_live 46 = .ok (.aload_n 0, 1) ∧ decode cX11_live 47 = .ok (.getfield 64, 3) ∧ decode cX11_live 50 = .ok (.iload_n 1, 1) ∧ decode cX11_live 51 = .ok (.invokevirtual 461, 3) ∧ decode cX11_live 54 = .ok (.aload_n 0, 1) ∧ decode cX11_live 55 = .ok (.aload_n 0, 1) ∧ decode cX11_live 56 = .ok (.getfield 81, 3) := by decide +kernel
theorem e_X11_live_3 : decode cX11_live 59 = .ok (.getfield 465, 3) ∧ decode cX11_live 62 = .ok (.invokevirtual 176, 3) ∧ decode cX11_live 65 = .ok (.ireturn, 1) := by decide +kernel
theorem S_X11_live {G : Kg} {σ : Kmem} {Q : Int → Kmem → Prop} {l1 : Int}  (h : (rI l1) ∧ ((l1 < 0 → Run G WX M_X11_deny 0 0 0 [vA G 0, vI 1] σ (fun r2 s3 => Q r2 s3)) ∧ (0 ≤ l1 → ((l1 ≤ 9999 → (rI (σ 64 0)) ∧ ((σ 64 0 ≠ 0 → Run G WX M_X4_run 6 0 0 [vA G 78, vA G 64, vA G 5, vA G 58, vI l1] σ (fun r5 s6 => Run G WX M_X11_give 0 0 0 [vA G 0, vI (s6 78 1)] s6 (fun r7 s8 => Q r7 s8))) ∧ (σ 64 0 = 0 → Run G WX M_X11_deny 0 0 0 [vA G 0, vI 6] σ (fun r9 s10 => Q r9 s10)))) ∧ (9999 < l1 → Run G WX M_X11_deny 0 0 0 [vA G 0, vI 1] σ (fun r11 s12 => Q r11 s12)))))) : Run G WX M_X11_live 7 0 0 [vA G 0, vI l1] σ Q := by
  refine Run.of (by decide +kernel) (by show (2 : Nat) ≤ 2; decide) ?_
  show Ex G WX M_X11_live 7 0 0 0 [(0, vA G 0), (1, vI l1)] [] σ Q
  refine R_iload_n e_X11_live_0.1 1 rfl ?_
  obtain ⟨q1, h⟩ := h
  refine R_if_lt 11 e_X11_live_0.2.1 (by decide) q1  (fun q => ?_) (fun q => ?_)
  · replace h := h.1 q
    refine R_aload_n e_X11_live_0.2.2.2.2.2.1 0 rfl ?_
    refine R_iconst e_X11_live_0.2.2.2.2.2.2.1 ?_
    refine R_callV (mc := 0) (ms := 0) (mc' := 0) (ms' := 0) (M' := M_X11_deny) (d' := 0) (as := [vI 1]) (st := []) 11 1 e_X11_live_0.2.2.2.2.2.2.2.1 (kCVof m_X11_deny l_X11_132) rfl (by decide) kx_0 (by decide) (by decide) rfl rfl (by show (0 : Nat) ≤ 8; decide) ?_
    refine Run.mono h (fun r2 s3 h => ?_)
    refine R_eqs (st2 := [vI r2]) rfl rfl ?_
    exact R_ireturn e_X11_live_0.2.2.2.2.2.2.2.2.1 rfl h
  · replace h := h.2 q
    refine R_iload_n e_X11_live_0.2.2.1 1 rfl ?_
    refine R_sipush e_X11_live_0.2.2.2.1 (by decide) ?_
    refine R_icmp_le 17 e_X11_live_0.2.2.2.2.1 (by decide) q1 (by decide) (fun q => ?_) (fun q => ?_)
    · replace h := h.1 q
      refine R_aload_n e_X11_live_0.2.2.2.2.2.2.2.2.2 0 rfl ?_
      refine R_getA 11 11 64 e_X11_live_1.1 f_X11_71 kx_0 (fun _ _ => rfl) rx_0_11 (by decide) ?_
      refine R_getI 7 0 0 e_X11_live_1.2.1 f_X11_460 (kS_self isS_64) (fun _ _ => rfl) rfl ?_
      obtain ⟨q4, h⟩ := h
      refine R_if_ne 34 e_X11_live_1.2.2.1 (by decide) q4  (fun q => ?_) (fun q => ?_)
      · replace h := h.1 q
        refine R_aload_n e_X11_live_1.2.2.2.2.2.2.2.1 0 rfl ?_
        refine R_getA 11 13 78 e_X11_live_1.2.2.2.2.2.2.2.2.1 f_X11_81 kx_0 (fun _ _ => rfl) rx_0_13 (by decide) ?_
        refine R_aload_n e_X11_live_1.2.2.2.2.2.2.2.2.2 0 rfl ?_
        refine R_getA 11 11 64 e_X11_live_2.1 f_X11_71 kx_0 (fun _ _ => rfl) rx_0_11 (by decide) ?_
        refine R_aload_n e_X11_live_2.2.1 0 rfl ?_
        refine R_getA 11 7 5 e_X11_live_2.2.2.1 f_X11_43 kx_0 (fun _ _ => rfl) rx_0_7 (by decide) ?_
        refine R_aload_n e_X11_live_2.2.2.2.1 0 rfl ?_
        refine R_getA 11 10 58 e_X11_live_2.2.2.2.2.1 f_X11_64 kx_0 (fun _ _ => rfl) rx_0_10 (by decide) ?_
        refine R_iload_n e_X11_live_2.2.2.2.2.2.1 1 rfl ?_
        refine R_callV (mc := 0) (ms := 0) (mc' := 0) (ms' := 0) (M' := M_X4_run) (d' := 6) (as := [vA G 64, vA G 5, vA G 58, vI l1]) (st := []) 4 4 e_X11_live_2.2.2.2.2.2.2.1 (kCVof m_X4_run l_X11_461) rfl (by decide) (kL_self isLf_78) (by decide) (by decide) rfl rfl (by show (0 : Nat) ≤ 8; decide) ?_
        refine Run.mono h (fun r5 s6 h => ?_)
        refine R_eqs (st2 := []) rfl rfl ?_
        refine R_aload_n e_X11_live_2.2.2.2.2.2.2.2.1 0 rfl ?_
        refine R_aload_n e_X11_live_2.2.2.2.2.2.2.2.2.1 0 rfl ?_
        refine R_getA 11 13 78 e_X11_live_2.2.2.2.2.2.2.2.2.2 f_X11_81 kx_0 (fun _ _ => rfl) rx_0_13 (by decide) ?_
        refine R_getI 4 1 1 e_X11_live_3.1 f_X11_465 (kL_self isLf_78) (fun _ _ => rfl) rfl ?_
        refine R_callV (mc := 0) (ms := 0) (mc' := 0) (ms' := 0) (M' := M_X11_give) (d' := 0) (as := [vI (s6 78 1)]) (st := []) 11 1 e_X11_live_3.2.1 (kCVof m_X11_give l_X11_176) rfl (by decide) kx_0 (by decide) (by decide) rfl rfl (by show (0 : Nat) ≤ 8; decide) ?_
        refine Run.mono h (fun r7 s8 h => ?_)
        refine R_eqs (st2 := [vI r7]) rfl rfl ?_
        exact R_ireturn e_X11_live_3.2.2 rfl h
      · replace h := h.2 q
        refine R_aload_n e_X11_live_1.2.2.2.1 0 rfl ?_
        refine R_bipush e_X11_live_1.2.2.2.2.1 (by decide) ?_
        refine R_callV (mc := 0) (ms := 0) (mc' := 0) (ms' := 0) (M' := M_X11_deny) (d' := 0) (as := [vI 6]) (st := []) 11 1 e_X11_live_1.2.2.2.2.2.1 (kCVof m_X11_deny l_X11_132) rfl (by decide) kx_0 (by decide) (by decide) rfl rfl (by show (0 : Nat) ≤ 8; decide) ?_
        refine Run.mono h (fun r9 s10 h => ?_)
        refine R_eqs (st2 := [vI r9]) rfl rfl ?_
        exact R_ireturn e_X11_live_1.2.2.2.2.2.2.1 rfl h
    · replace h := h.2 q
      refine R_aload_n e_X11_live_0.2.2.2.2.2.1 0 rfl ?_
      refine R_iconst e_X11_live_0.2.2.2.2.2.2.1 ?_
      refine R_callV (mc := 0) (ms := 0) (mc' := 0) (ms' := 0) (M' := M_X11_deny) (d' := 0) (as := [vI 1]) (st := []) 11 1 e_X11_live_0.2.2.2.2.2.2.2.1 (kCVof m_X11_deny l_X11_132) rfl (by decide) kx_0 (by decide) (by decide) rfl rfl (by show (0 : Nat) ≤ 8; decide) ?_
      refine Run.mono h (fun r11 s12 h => ?_)
      refine R_eqs (st2 := [vI r11]) rfl rfl ?_
      exact R_ireturn e_X11_live_0.2.2.2.2.2.2.2.2.1 rfl h
/-! KiteLand.lived(I)I -/
theorem e_X11_lived_0 : decode cX11_lived 0 = .ok (.iload_n 1, 1) ∧ decode cX11_lived 1 = .ok (.ifCond .lt 8, 3) ∧ decode cX11_lived 4 = .ok (.iload_n 1, 1) ∧ decode cX11_lived 5 = .ok (.iconst 4, 1) ∧ decode cX11_lived 6 = .ok (.if_icmp .le 9, 3) ∧ decode cX11_lived 9 = .ok (.aload_n 0, 1) ∧ decode cX11_lived 10 = .ok (.iconst 1, 1) ∧ decode cX11_lived 11 = .ok (.invokevirtual 132, 3) ∧ decode cX11_lived 14 = .ok (.ireturn, 1) ∧ decode cX11_lived 15 = .ok (.aload_n 0, 1) := by decide +kernel
theorem e_X11_lived_1 : decode cX11_lived 16 = .ok (.getfield 81, 3) ∧ decode cX11_lived 19 = .ok (.getfield 466, 3) ∧ decode cX11_lived 22 = .ok (.ifCond .ne 10, 3) ∧ decode cX11_lived 25 = .ok (.aload_n 0, 1) ∧ decode cX11_lived 26 = .ok (.bipush 6, 2) ∧ decode cX11_lived 28 = .ok (.invokevirtual 132, 3) ∧ decode cX11_lived 31 = .ok (.ireturn, 1) ∧ decode cX11_lived 32 = .ok (.iload_n 1, 1) ∧ decode cX11_lived 33 = .ok (.tableswitch 79 0 3 #[31, 43, 55, 67], 31) ∧ decode cX11_lived 64 = .ok (.aload_n 0, 1) := by decide +kernel
theorem e_X11_lived_2 : decode cX11_lived 65 = .ok (.aload_n 0, 1) ∧ decode cX11_lived 66 = .ok (.getfield 81, 3) ∧ decode cX11_lived 69 = .ok (.getfield 467, 3) ∧ decode cX11_lived 72 = .ok (.invokevirtual 176, 3) ∧ decode cX11_lived 75 = .ok (.ireturn, 1) ∧ decode cX11_lived 76 = .ok (.aload_n 0, 1) ∧ decode cX11_lived 77 = .ok (.aload_n 0, 1) ∧ decode cX11_lived 78 = .ok (.getfield 81, 3) ∧ decode cX11_lived 81 = .ok (.getfield 470, 3) ∧ decode cX11_lived 84 = .ok (.invokevirtual 176, 3) := by decide +kernel
theorem e_X11_lived_3 : decode cX11_lived 87 = .ok (.ireturn, 1) ∧ decode cX11_lived 88 = .ok (.aload_n 0, 1) ∧ decode cX11_lived 89 = .ok (.aload_n 0, 1) ∧ decode cX11_lived 90 = .ok (.getfield 81, 3) ∧ decode cX11_lived 93 = .ok (.getfield 473, 3) ∧ decode cX11_lived 96 = .ok (.invokevirtual 176, 3) ∧ decode cX11_lived 99 = .ok (.ireturn, 1) ∧ decode cX11_lived 100 = .ok (.aload_n 0, 1) ∧ decode cX11_lived 101 = .ok (.aload_n 0, 1) ∧ decode cX11_lived 102 = .ok (.getfield 81, 3) := by decide +kernel
theorem e_X11_lived_4 : decode cX11_lived 105 = .ok (.getfield 474, 3) ∧ decode cX11_lived 108 = .ok (.invokevirtual 176, 3) ∧ decode cX11_lived 111 = .ok (.ireturn, 1) ∧ decode cX11_lived 112 = .ok (.aload_n 0, 1) ∧ decode cX11_lived 113 = .ok (.aload_n 0, 1) ∧ decode cX11_lived 114 = .ok (.getfield 81, 3) ∧ decode cX11_lived 117 = .ok (.getfield 477, 3) ∧ decode cX11_lived 120 = .ok (.ifCond .eq 7, 3) ∧ decode cX11_lived 123 = .ok (.iconst 1, 1) ∧ decode cX11_lived 124 = .ok (.goto 4, 3) := by decide +kernel
theorem e_X11_lived_5 : decode cX11_lived 127 = .ok (.iconst 0, 1) ∧ decode cX11_lived 128 = .ok (.invokevirtual 176, 3) ∧ decode cX11_lived 131 = .ok (.ireturn, 1) := by decide +kernel
theorem S_X11_lived {G : Kg} {σ : Kmem} {Q : Int → Kmem → Prop} {l1 : Int}  (h : (rI l1) ∧ ((l1 < 0 → Run G WX M_X11_deny 0 0 0 [vA G 0, vI 1] σ (fun r2 s3 => Q r2 s3)) ∧ (0 ≤ l1 → ((l1 ≤ 4 → (rI (σ 78 0)) ∧ ((σ 78 0 ≠ 0 → ((l1 = 0 → Run G WX M_X11_give 0 0 0 [vA G 0, vI (σ 78 2)] σ (fun r5 s6 => Q r5 s6)) ∧ (l1 = 1 → Run G WX M_X11_give 0 0 0 [vA G 0, vI (σ 78 3)] σ (fun r7 s8 => Q r7 s8)) ∧ (l1 = 2 → Run G WX M_X11_give 0 0 0 [vA G 0, vI (σ 78 4)] σ (fun r9 s10 => Q r9 s10)) ∧ (l1 = 3 → Run G WX M_X11_give 0 0 0 [vA G 0, vI (σ 78 5)] σ (fun r11 s12 => Q r11 s12)) ∧ (l1 < 0 ∨ 3 < l1 → (rI (σ 78 6)) ∧ ((σ 78 6 = 0 → Run G WX M_X11_give 0 0 0 [vA G 0, vI 0] σ (fun r14 s15 => Q r14 s15)) ∧ (σ 78 6 ≠ 0 → Run G WX M_X11_give 0 0 0 [vA G 0, vI 1] σ (fun r16 s17 => Q r16 s17)))))) ∧ (σ 78 0 = 0 → Run G WX M_X11_deny 0 0 0 [vA G 0, vI 6] σ (fun r18 s19 => Q r18 s19)))) ∧ (4 < l1 → Run G WX M_X11_deny 0 0 0 [vA G 0, vI 1] σ (fun r20 s21 => Q r20 s21)))))) : Run G WX M_X11_lived 1 0 0 [vA G 0, vI l1] σ Q := by
  refine Run.of (by decide +kernel) (by show (2 : Nat) ≤ 2; decide) ?_
  show Ex G WX M_X11_lived 1 0 0 0 [(0, vA G 0), (1, vI l1)] [] σ Q
  refine R_iload_n e_X11_lived_0.1 1 rfl ?_
  obtain ⟨q1, h⟩ := h
  refine R_if_lt 9 e_X11_lived_0.2.1 (by decide) q1  (fun q => ?_) (fun q => ?_)
  · replace h := h.1 q
    refine R_aload_n e_X11_lived_0.2.2.2.2.2.1 0 rfl ?_
    refine R_iconst e_X11_lived_0.2.2.2.2.2.2.1 ?_
    refine R_callV (mc := 0) (ms := 0) (mc' := 0) (ms' := 0) (M' := M_X11_deny) (d' := 0) (as := [vI 1]) (st := []) 11 1 e_X11_lived_0.2.2.2.2.2.2.2.1 (kCVof m_X11_deny l_X11_132) rfl (by decide) kx_0 (by decide) (by decide) rfl rfl (by show (0 : Nat) ≤ 8; decide) ?_
    refine Run.mono h (fun r2 s3 h => ?_)
    refine R_eqs (st2 := [vI r2]) rfl rfl ?_
    exact R_ireturn e_X11_lived_0.2.2.2.2.2.2.2.2.1 rfl h
  · replace h := h.2 q
    refine R_iload_n e_X11_lived_0.2.2.1 1 rfl ?_
    refine R_iconst e_X11_lived_0.2.2.2.1 ?_
    refine R_icmp_le 15 e_X11_lived_0.2.2.2.2.1 (by decide) q1 (by decide) (fun q => ?_) (fun q => ?_)
    · replace h := h.1 q
      refine R_aload_n e_X11_lived_0.2.2.2.2.2.2.2.2.2 0 rfl ?_
      refine R_getA 11 13 78 e_X11_lived_1.1 f_X11_81 kx_0 (fun _ _ => rfl) rx_0_13 (by decide) ?_
      refine R_getI 4 0 0 e_X11_lived_1.2.1 f_X11_466 (kL_self isLf_78) (fun _ _ => rfl) rfl ?_
      obtain ⟨q4, h⟩ := h
      refine R_if_ne 32 e_X11_lived_1.2.2.1 (by decide) q4  (fun q => ?_) (fun q => ?_)
      · replace h := h.1 q
        refine R_iload_n e_X11_lived_1.2.2.2.2.2.2.2.1 1 rfl ?_
        by_cases t0 : l1 = 0
        · refine R_tableIn 64 e_X11_lived_1.2.2.2.2.2.2.2.2.1 q1 (by omega) (by omega) (off := 31) (by rw [t0]; rfl) (by decide) ?_
          replace h := h.1 t0
          refine R_aload_n e_X11_lived_1.2.2.2.2.2.2.2.2.2 0 rfl ?_
          refine R_aload_n e_X11_lived_2.1 0 rfl ?_
          refine R_getA 11 13 78 e_X11_lived_2.2.1 f_X11_81 kx_0 (fun _ _ => rfl) rx_0_13 (by decide) ?_
          refine R_getI 4 2 2 e_X11_lived_2.2.2.1 f_X11_467 (kL_self isLf_78) (fun _ _ => rfl) rfl ?_
          refine R_callV (mc := 0) (ms := 0) (mc' := 0) (ms' := 0) (M' := M_X11_give) (d' := 0) (as := [vI (σ 78 2)]) (st := []) 11 1 e_X11_lived_2.2.2.2.1 (kCVof m_X11_give l_X11_176) rfl (by decide) kx_0 (by decide) (by decide) rfl rfl (by show (0 : Nat) ≤ 8; decide) ?_
          refine Run.mono h (fun r5 s6 h => ?_)
          refine R_eqs (st2 := [vI r5]) rfl rfl ?_
          exact R_ireturn e_X11_lived_2.2.2.2.2.1 rfl h
        by_cases t1 : l1 = 1
        · refine R_tableIn 76 e_X11_lived_1.2.2.2.2.2.2.2.2.1 q1 (by omega) (by omega) (off := 43) (by rw [t1]; rfl) (by decide) ?_
          replace h := h.2.1 t1
          refine R_aload_n e_X11_lived_2.2.2.2.2.2.1 0 rfl ?_
          refine R_aload_n e_X11_lived_2.2.2.2.2.2.2.1 0 rfl ?_
          refine R_getA 11 13 78 e_X11_lived_2.2.2.2.2.2.2.2.1 f_X11_81 kx_0 (fun _ _ => rfl) rx_0_13 (by decide) ?_
          refine R_getI 4 3 3 e_X11_lived_2.2.2.2.2.2.2.2.2.1 f_X11_470 (kL_self isLf_78) (fun _ _ => rfl) rfl ?_
          refine R_callV (mc := 0) (ms := 0) (mc' := 0) (ms' := 0) (M' := M_X11_give) (d' := 0) (as := [vI (σ 78 3)]) (st := []) 11 1 e_X11_lived_2.2.2.2.2.2.2.2.2.2 (kCVof m_X11_give l_X11_176) rfl (by decide) kx_0 (by decide) (by decide) rfl rfl (by show (0 : Nat) ≤ 8; decide) ?_
          refine Run.mono h (fun r7 s8 h => ?_)
          refine R_eqs (st2 := [vI r7]) rfl rfl ?_
          exact R_ireturn e_X11_lived_3.1 rfl h
        by_cases t2 : l1 = 2
        · refine R_tableIn 88 e_X11_lived_1.2.2.2.2.2.2.2.2.1 q1 (by omega) (by omega) (off := 55) (by rw [t2]; rfl) (by decide) ?_
          replace h := h.2.2.1 t2
          refine R_aload_n e_X11_lived_3.2.1 0 rfl ?_
          refine R_aload_n e_X11_lived_3.2.2.1 0 rfl ?_
          refine R_getA 11 13 78 e_X11_lived_3.2.2.2.1 f_X11_81 kx_0 (fun _ _ => rfl) rx_0_13 (by decide) ?_
          refine R_getI 4 4 4 e_X11_lived_3.2.2.2.2.1 f_X11_473 (kL_self isLf_78) (fun _ _ => rfl) rfl ?_
          refine R_callV (mc := 0) (ms := 0) (mc' := 0) (ms' := 0) (M' := M_X11_give) (d' := 0) (as := [vI (σ 78 4)]) (st := []) 11 1 e_X11_lived_3.2.2.2.2.2.1 (kCVof m_X11_give l_X11_176) rfl (by decide) kx_0 (by decide) (by decide) rfl rfl (by show (0 : Nat) ≤ 8; decide) ?_
          refine Run.mono h (fun r9 s10 h => ?_)
          refine R_eqs (st2 := [vI r9]) rfl rfl ?_
          exact R_ireturn e_X11_lived_3.2.2.2.2.2.2.1 rfl h
        by_cases t3 : l1 = 3
        · refine R_tableIn 100 e_X11_lived_1.2.2.2.2.2.2.2.2.1 q1 (by omega) (by omega) (off := 67) (by rw [t3]; rfl) (by decide) ?_
          replace h := h.2.2.2.1 t3
          refine R_aload_n e_X11_lived_3.2.2.2.2.2.2.2.1 0 rfl ?_
          refine R_aload_n e_X11_lived_3.2.2.2.2.2.2.2.2.1 0 rfl ?_
          refine R_getA 11 13 78 e_X11_lived_3.2.2.2.2.2.2.2.2.2 f_X11_81 kx_0 (fun _ _ => rfl) rx_0_13 (by decide) ?_
          refine R_getI 4 5 5 e_X11_lived_4.1 f_X11_474 (kL_self isLf_78) (fun _ _ => rfl) rfl ?_
          refine R_callV (mc := 0) (ms := 0) (mc' := 0) (ms' := 0) (M' := M_X11_give) (d' := 0) (as := [vI (σ 78 5)]) (st := []) 11 1 e_X11_lived_4.2.1 (kCVof m_X11_give l_X11_176) rfl (by decide) kx_0 (by decide) (by decide) rfl rfl (by show (0 : Nat) ≤ 8; decide) ?_
          refine Run.mono h (fun r11 s12 h => ?_)
          refine R_eqs (st2 := [vI r11]) rfl rfl ?_
          exact R_ireturn e_X11_lived_4.2.2.1 rfl h
        refine R_tableOut 112 e_X11_lived_1.2.2.2.2.2.2.2.2.1 q1 (by omega) (by decide) ?_
        replace h := h.2.2.2.2 (by omega)
        refine R_aload_n e_X11_lived_4.2.2.2.1 0 rfl ?_
        refine R_aload_n e_X11_lived_4.2.2.2.2.1 0 rfl ?_
        refine R_getA 11 13 78 e_X11_lived_4.2.2.2.2.2.1 f_X11_81 kx_0 (fun _ _ => rfl) rx_0_13 (by decide) ?_
        refine R_getI 4 6 6 e_X11_lived_4.2.2.2.2.2.2.1 f_X11_477 (kL_self isLf_78) (fun _ _ => rfl) rfl ?_
        obtain ⟨q13, h⟩ := h
        refine R_if_eq 127 e_X11_lived_4.2.2.2.2.2.2.2.1 (by decide) q13  (fun q => ?_) (fun q => ?_)
        · replace h := h.1 q
          refine R_iconst e_X11_lived_5.1 ?_
          refine R_callV (mc := 0) (ms := 0) (mc' := 0) (ms' := 0) (M' := M_X11_give) (d' := 0) (as := [vI 0]) (st := []) 11 1 e_X11_lived_5.2.1 (kCVof m_X11_give l_X11_176) rfl (by decide) kx_0 (by decide) (by decide) rfl rfl (by show (0 : Nat) ≤ 8; decide) ?_
          refine Run.mono h (fun r14 s15 h => ?_)
          refine R_eqs (st2 := [vI r14]) rfl rfl ?_
          exact R_ireturn e_X11_lived_5.2.2 rfl h
        · replace h := h.2 q
          refine R_iconst e_X11_lived_4.2.2.2.2.2.2.2.2.1 ?_
          refine R_goto 128 e_X11_lived_4.2.2.2.2.2.2.2.2.2 (by decide) ?_
          refine R_callV (mc := 0) (ms := 0) (mc' := 0) (ms' := 0) (M' := M_X11_give) (d' := 0) (as := [vI 1]) (st := []) 11 1 e_X11_lived_5.2.1 (kCVof m_X11_give l_X11_176) rfl (by decide) kx_0 (by decide) (by decide) rfl rfl (by show (0 : Nat) ≤ 8; decide) ?_
          refine Run.mono h (fun r16 s17 h => ?_)
          refine R_eqs (st2 := [vI r16]) rfl rfl ?_
          exact R_ireturn e_X11_lived_5.2.2 rfl h
      · replace h := h.2 q
        refine R_aload_n e_X11_lived_1.2.2.2.1 0 rfl ?_
        refine R_bipush e_X11_lived_1.2.2.2.2.1 (by decide) ?_
        refine R_callV (mc := 0) (ms := 0) (mc' := 0) (ms' := 0) (M' := M_X11_deny) (d' := 0) (as := [vI 6]) (st := []) 11 1 e_X11_lived_1.2.2.2.2.2.1 (kCVof m_X11_deny l_X11_132) rfl (by decide) kx_0 (by decide) (by decide) rfl rfl (by show (0 : Nat) ≤ 8; decide) ?_
        refine Run.mono h (fun r18 s19 h => ?_)
        refine R_eqs (st2 := [vI r18]) rfl rfl ?_
        exact R_ireturn e_X11_lived_1.2.2.2.2.2.2.1 rfl h
    · replace h := h.2 q
      refine R_aload_n e_X11_lived_0.2.2.2.2.2.1 0 rfl ?_
      refine R_iconst e_X11_lived_0.2.2.2.2.2.2.1 ?_
      refine R_callV (mc := 0) (ms := 0) (mc' := 0) (ms' := 0) (M' := M_X11_deny) (d' := 0) (as := [vI 1]) (st := []) 11 1 e_X11_lived_0.2.2.2.2.2.2.2.1 (kCVof m_X11_deny l_X11_132) rfl (by decide) kx_0 (by decide) (by decide) rfl rfl (by show (0 : Nat) ≤ 8; decide) ?_
      refine Run.mono h (fun r20 s21 h => ?_)
      refine R_eqs (st2 := [vI r20]) rfl rfl ?_
      exact R_ireturn e_X11_lived_0.2.2.2.2.2.2.2.2.1 rfl h
/-! KiteLand.mean(III)Z -/
theorem e_X11_mean_0 : decode cX11_mean 0 = .ok (.aload_n 0, 1) ∧ decode cX11_mean 1 = .ok (.getfield 43, 3) ∧ decode cX11_mean 4 = .ok (.iload_n 1, 1) ∧ decode cX11_mean 5 = .ok (.invokevirtual 238, 3) ∧ decode cX11_mean 8 = .ok (.ifCond .eq 27, 3) ∧ decode cX11_mean 11 = .ok (.iload_n 2, 1) ∧ decode cX11_mean 12 = .ok (.ifCond .lt 23, 3) ∧ decode cX11_mean 15 = .ok (.iload_n 3, 1) ∧ decode cX11_mean 16 = .ok (.iconst 1, 1) ∧ decode cX11_mean 17 = .ok (.if_icmp .lt 18, 3) := by decide +kernel
theorem e_X11_mean_1 : decode cX11_mean 20 = .ok (.iload_n 3, 1) ∧ decode cX11_mean 21 = .ok (.bipush 20, 2) ∧ decode cX11_mean 23 = .ok (.if_icmp .gt 12, 3) ∧ decode cX11_mean 26 = .ok (.iload_n 2, 1) ∧ decode cX11_mean 27 = .ok (.sipush 10000, 3) ∧ decode cX11_mean 30 = .ok (.iload_n 3, 1) ∧ decode cX11_mean 31 = .ok (.isub, 1) ∧ decode cX11_mean 32 = .ok (.if_icmp .le 9, 3) ∧ decode cX11_mean 35 = .ok (.aload_n 0, 1) ∧ decode cX11_mean 36 = .ok (.iconst 1, 1) := by decide +kernel
theorem e_X11_mean_2 : decode cX11_mean 37 = .ok (.invokevirtual 113, 3) ∧ decode cX11_mean 40 = .ok (.ireturn, 1) ∧ decode cX11_mean 41 = .ok (.aload_n 0, 1) ∧ decode cX11_mean 42 = .ok (.getfield 71, 3) ∧ decode cX11_mean 45 = .ok (.getfield 460, 3) ∧ decode cX11_mean 48 = .ok (.ifCond .ne 10, 3) ∧ decode cX11_mean 51 = .ok (.aload_n 0, 1) ∧ decode cX11_mean 52 = .ok (.bipush 6, 2) ∧ decode cX11_mean 54 = .ok (.invokevirtual 113, 3) ∧ decode cX11_mean 57 = .ok (.ireturn, 1) := by decide +kernel
theorem e_X11_mean_3 : decode cX11_mean 58 = .ok (.lconst 0, 1) ∧ decode cX11_mean 59 = .ok (.lstore 4, 2) ∧ decode cX11_mean 61 = .ok (.iconst 0, 1) ∧ decode cX11_mean 62 = .ok (.istore 6, 2) ∧ decode cX11_mean 64 = .ok (.iload 6, 2) ∧ decode cX11_mean 66 = .ok (.iload_n 3, 1) ∧ decode cX11_mean 67 = .ok (.if_icmp .ge 61, 3) ∧ decode cX11_mean 70 = .ok (.aload_n 0, 1) ∧ decode cX11_mean 71 = .ok (.getfield 47, 3) ∧ decode cX11_mean 74 = .ok (.aload_n 0, 1) := by decide +kernel
theorem e_X11_mean_4 : decode cX11_mean 75 = .ok (.getfield 43, 3) ∧ decode cX11_mean 78 = .ok (.invokevirtual 167, 3) ∧ decode cX11_mean 81 = .ok (.aload_n 0, 1) ∧ decode cX11_mean 82 = .ok (.getfield 85, 3) ∧ decode cX11_mean 85 = .ok (.aload_n 0, 1) ∧ decode cX11_mean 86 = .ok (.getfield 71, 3) ∧ decode cX11_mean 89 = .ok (.aload_n 0, 1) ∧ decode cX11_mean 90 = .ok (.getfield 47, 3) ∧ decode cX11_mean 93 = .ok (.aload_n 0, 1) ∧ decode cX11_mean 94 = .ok (.getfield 64, 3) := by decide +kernel
theorem e_X11_mean_5 : decode cX11_mean 97 = .ok (.iload_n 2, 1) ∧ decode cX11_mean 98 = .ok (.iload 6, 2) ∧ decode cX11_mean 100 = .ok (.iadd, 1) ∧ decode cX11_mean 101 = .ok (.invokevirtual 461, 3) ∧ decode cX11_mean 104 = .ok (.lload 4, 2) ∧ decode cX11_mean 106 = .ok (.aload_n 0, 1) ∧ decode cX11_mean 107 = .ok (.getfield 47, 3) ∧ decode cX11_mean 110 = .ok (.getfield 241, 3) ∧ decode cX11_mean 113 = .ok (.iload_n 1, 1) ∧ decode cX11_mean 114 = .ok (.aaload, 1) := by decide +kernel
theorem e_X11_mean_6 : decode cX11_mean 115 = .ok (.getfield 262, 3) ∧ decode cX11_mean 118 = .ok (.i2l, 1) ∧ decode cX11_mean 119 = .ok (.ladd, 1) ∧ decode cX11_mean 120 = .ok (.lstore 4, 2) ∧ decode cX11_mean 122 = .ok (.iinc 6 1, 3) ∧ decode cX11_mean 125 = .ok (.goto (-61), 3) ∧ decode cX11_mean 128 = .ok (.aload_n 0, 1) ∧ decode cX11_mean 129 = .ok (.lload 4, 2) ∧ decode cX11_mean 131 = .ok (.iload_n 3, 1) ∧ decode cX11_mean 132 = .ok (.i2l, 1) := by decide +kernel
theorem e_X11_mean_7 : decode cX11_mean 133 = .ok (.invokevirtual 454, 3) ∧ decode cX11_mean 136 = .ok (.aload_n 0, 1) ∧ decode cX11_mean 137 = .ok (.invokevirtual 120, 3) ∧ decode cX11_mean 140 = .ok (.ireturn, 1) := by decide +kernel
abbrev E_X11_mean_64 (G : Kg) (l1 l2 l3 l4 l6 : Int) (σ : Kmem) (Q : Int → Kmem → Prop) : Prop := Ex G WX M_X11_mean 7 0 0 64 [(0, vA G 0), (1, vI l1), (2, vI l2), (3, vI l3), (4, vL l4), (6, vI l6)] [] σ Q
theorem S_X11_mean {G : Kg} {σ : Kmem} {Q : Int → Kmem → Prop} {l1 l2 l3 : Int}  (h : Run G WX M_X0_hasKite 0 0 0 [vA G 5, vI l1] σ (fun r1 s2 => (rI r1) ∧ ((r1 = 0 → Run G WX M_X11_refuse 0 0 0 [vA G 0, vI 1] s2 (fun r4 s5 => (r4 = 0 ∨ r4 = 1) ∧ Q r4 s5)) ∧ (r1 ≠ 0 → (rI l2) ∧ ((l2 < 0 → Run G WX M_X11_refuse 0 0 0 [vA G 0, vI 1] s2 (fun r8 s9 => (r8 = 0 ∨ r8 = 1) ∧ Q r8 s9)) ∧ (0 ≤ l2 → (rI l3) ∧ ((l3 < 1 → Run G WX M_X11_refuse 0 0 0 [vA G 0, vI 1] s2 (fun r12 s13 => (r12 = 0 ∨ r12 = 1) ∧ Q r12 s13)) ∧ (1 ≤ l3 → ((20 < l3 → Run G WX M_X11_refuse 0 0 0 [vA G 0, vI 1] s2 (fun r15 s16 => (r15 = 0 ∨ r15 = 1) ∧ Q r15 s16)) ∧ (l3 ≤ 20 → (rI (10000 - l3)) ∧ ((l2 ≤ 10000 - l3 → (rI (s2 64 0)) ∧ ((s2 64 0 ≠ 0 → E_X11_mean_64 G l1 l2 l3 0 0 s2 Q) ∧ (s2 64 0 = 0 → Run G WX M_X11_refuse 0 0 0 [vA G 0, vI 6] s2 (fun r20 s21 => (r20 = 0 ∨ r20 = 1) ∧ Q r20 s21)))) ∧ (10000 - l3 < l2 → Run G WX M_X11_refuse 0 0 0 [vA G 0, vI 1] s2 (fun r23 s24 => (r23 = 0 ∨ r23 = 1) ∧ Q r23 s24))))))))))))) : Run G WX M_X11_mean 7 0 0 [vA G 0, vI l1, vI l2, vI l3] σ Q := by
  refine Run.of (by decide +kernel) (by show (4 : Nat) ≤ 7; decide) ?_
  show Ex G WX M_X11_mean 7 0 0 0 [(0, vA G 0), (1, vI l1), (2, vI l2), (3, vI l3)] [] σ Q
  refine R_aload_n e_X11_mean_0.1 0 rfl ?_
  refine R_getA 11 7 5 e_X11_mean_0.2.1 f_X11_43 kx_0 (fun _ _ => rfl) rx_0_7 (by decide) ?_
  refine R_iload_n e_X11_mean_0.2.2.1 1 rfl ?_
  refine R_callV (mc := 0) (ms := 0) (mc' := 0) (ms' := 0) (M' := M_X0_hasKite) (d' := 0) (as := [vI l1]) (st := []) 0 1 e_X11_mean_0.2.2.2.1 (kCVof m_X0_hasKite l_X11_238) rfl (by decide) (kC_self isC_5) (by decide) (by decide) rfl rfl (by show (0 : Nat) ≤ 8; decide) ?_
  refine Run.mono h (fun r1 s2 h => ?_)
  refine R_eqs (st2 := [vI r1]) rfl rfl ?_
  obtain ⟨q3, h⟩ := h
  refine R_if_eq 35 e_X11_mean_0.2.2.2.2.1 (by decide) q3  (fun q => ?_) (fun q => ?_)
  · replace h := h.1 q
    refine R_aload_n e_X11_mean_1.2.2.2.2.2.2.2.2.1 0 rfl ?_
    refine R_iconst e_X11_mean_1.2.2.2.2.2.2.2.2.2 ?_
    refine R_callV (mc := 0) (ms := 0) (mc' := 0) (ms' := 0) (M' := M_X11_refuse) (d' := 0) (as := [vI 1]) (st := []) 11 1 e_X11_mean_2.1 (kCVof m_X11_refuse l_X11_113) rfl (by decide) kx_0 (by decide) (by decide) rfl rfl (by show (0 : Nat) ≤ 8; decide) ?_
    refine Run.mono h (fun r4 s5 h => ?_)
    refine R_eqs (st2 := [vI r4]) rfl rfl ?_
    obtain ⟨q6, h⟩ := h
    exact R_zreturn e_X11_mean_2.2.1 rfl q6 h
  · replace h := h.2 q
    refine R_iload_n e_X11_mean_0.2.2.2.2.2.1 2 rfl ?_
    obtain ⟨q7, h⟩ := h
    refine R_if_lt 35 e_X11_mean_0.2.2.2.2.2.2.1 (by decide) q7  (fun q => ?_) (fun q => ?_)
    · replace h := h.1 q
      refine R_aload_n e_X11_mean_1.2.2.2.2.2.2.2.2.1 0 rfl ?_
      refine R_iconst e_X11_mean_1.2.2.2.2.2.2.2.2.2 ?_
      refine R_callV (mc := 0) (ms := 0) (mc' := 0) (ms' := 0) (M' := M_X11_refuse) (d' := 0) (as := [vI 1]) (st := []) 11 1 e_X11_mean_2.1 (kCVof m_X11_refuse l_X11_113) rfl (by decide) kx_0 (by decide) (by decide) rfl rfl (by show (0 : Nat) ≤ 8; decide) ?_
      refine Run.mono h (fun r8 s9 h => ?_)
      refine R_eqs (st2 := [vI r8]) rfl rfl ?_
      obtain ⟨q10, h⟩ := h
      exact R_zreturn e_X11_mean_2.2.1 rfl q10 h
    · replace h := h.2 q
      refine R_iload_n e_X11_mean_0.2.2.2.2.2.2.2.1 3 rfl ?_
      refine R_iconst e_X11_mean_0.2.2.2.2.2.2.2.2.1 ?_
      obtain ⟨q11, h⟩ := h
      refine R_icmp_lt 35 e_X11_mean_0.2.2.2.2.2.2.2.2.2 (by decide) q11 (by decide) (fun q => ?_) (fun q => ?_)
      · replace h := h.1 q
        refine R_aload_n e_X11_mean_1.2.2.2.2.2.2.2.2.1 0 rfl ?_
        refine R_iconst e_X11_mean_1.2.2.2.2.2.2.2.2.2 ?_
        refine R_callV (mc := 0) (ms := 0) (mc' := 0) (ms' := 0) (M' := M_X11_refuse) (d' := 0) (as := [vI 1]) (st := []) 11 1 e_X11_mean_2.1 (kCVof m_X11_refuse l_X11_113) rfl (by decide) kx_0 (by decide) (by decide) rfl rfl (by show (0 : Nat) ≤ 8; decide) ?_
        refine Run.mono h (fun r12 s13 h => ?_)
        refine R_eqs (st2 := [vI r12]) rfl rfl ?_
        obtain ⟨q14, h⟩ := h
        exact R_zreturn e_X11_mean_2.2.1 rfl q14 h
      · replace h := h.2 q
        refine R_iload_n e_X11_mean_1.1 3 rfl ?_
        refine R_bipush e_X11_mean_1.2.1 (by decide) ?_
        refine R_icmp_gt 35 e_X11_mean_1.2.2.1 (by decide) q11 (by decide) (fun q => ?_) (fun q => ?_)
        · replace h := h.1 q
          refine R_aload_n e_X11_mean_1.2.2.2.2.2.2.2.2.1 0 rfl ?_
          refine R_iconst e_X11_mean_1.2.2.2.2.2.2.2.2.2 ?_
          refine R_callV (mc := 0) (ms := 0) (mc' := 0) (ms' := 0) (M' := M_X11_refuse) (d' := 0) (as := [vI 1]) (st := []) 11 1 e_X11_mean_2.1 (kCVof m_X11_refuse l_X11_113) rfl (by decide) kx_0 (by decide) (by decide) rfl rfl (by show (0 : Nat) ≤ 8; decide) ?_
          refine Run.mono h (fun r15 s16 h => ?_)
          refine R_eqs (st2 := [vI r15]) rfl rfl ?_
          obtain ⟨q17, h⟩ := h
          exact R_zreturn e_X11_mean_2.2.1 rfl q17 h
        · replace h := h.2 q
          refine R_iload_n e_X11_mean_1.2.2.2.1 2 rfl ?_
          refine R_sipush e_X11_mean_1.2.2.2.2.1 (by decide) ?_
          refine R_iload_n e_X11_mean_1.2.2.2.2.2.1 3 rfl ?_
          refine R_isub e_X11_mean_1.2.2.2.2.2.2.1 ?_
          obtain ⟨q18, h⟩ := h
          refine R_icmp_le 41 e_X11_mean_1.2.2.2.2.2.2.2.1 (by decide) q7 q18 (fun q => ?_) (fun q => ?_)
          · replace h := h.1 q
            refine R_aload_n e_X11_mean_2.2.2.1 0 rfl ?_
            refine R_getA 11 11 64 e_X11_mean_2.2.2.2.1 f_X11_71 kx_0 (fun _ _ => rfl) rx_0_11 (by decide) ?_
            refine R_getI 7 0 0 e_X11_mean_2.2.2.2.2.1 f_X11_460 (kS_self isS_64) (fun _ _ => rfl) rfl ?_
            obtain ⟨q19, h⟩ := h
            refine R_if_ne 58 e_X11_mean_2.2.2.2.2.2.1 (by decide) q19  (fun q => ?_) (fun q => ?_)
            · replace h := h.1 q
              refine R_lconst 0 e_X11_mean_3.1 (by decide) ?_
              refine R_lstore (ls2 := [(4, vL 0), (0, vA G 0), (1, vI l1), (2, vI l2), (3, vI l3)]) e_X11_mean_3.2.1 (by decide) rfl ?_
              refine R_iconst e_X11_mean_3.2.2.1 ?_
              refine R_istore (ls2 := [(6, vI 0), (4, vL 0), (0, vA G 0), (1, vI l1), (2, vI l2), (3, vI l3)]) e_X11_mean_3.2.2.2.1 (by decide) rfl ?_
              refine R_ls (ls2 := [(0, vA G 0), (1, vI l1), (2, vI l2), (3, vI l3), (4, vL 0), (6, vI 0)]) [2, 3, 4, 5, 1, 0] rfl ?_
              exact h
            · replace h := h.2 q
              refine R_aload_n e_X11_mean_2.2.2.2.2.2.2.1 0 rfl ?_
              refine R_bipush e_X11_mean_2.2.2.2.2.2.2.2.1 (by decide) ?_
              refine R_callV (mc := 0) (ms := 0) (mc' := 0) (ms' := 0) (M' := M_X11_refuse) (d' := 0) (as := [vI 6]) (st := []) 11 1 e_X11_mean_2.2.2.2.2.2.2.2.2.1 (kCVof m_X11_refuse l_X11_113) rfl (by decide) kx_0 (by decide) (by decide) rfl rfl (by show (0 : Nat) ≤ 8; decide) ?_
              refine Run.mono h (fun r20 s21 h => ?_)
              refine R_eqs (st2 := [vI r20]) rfl rfl ?_
              obtain ⟨q22, h⟩ := h
              exact R_zreturn e_X11_mean_2.2.2.2.2.2.2.2.2.2 rfl q22 h
          · replace h := h.2 q
            refine R_aload_n e_X11_mean_1.2.2.2.2.2.2.2.2.1 0 rfl ?_
            refine R_iconst e_X11_mean_1.2.2.2.2.2.2.2.2.2 ?_
            refine R_callV (mc := 0) (ms := 0) (mc' := 0) (ms' := 0) (M' := M_X11_refuse) (d' := 0) (as := [vI 1]) (st := []) 11 1 e_X11_mean_2.1 (kCVof m_X11_refuse l_X11_113) rfl (by decide) kx_0 (by decide) (by decide) rfl rfl (by show (0 : Nat) ≤ 8; decide) ?_
            refine Run.mono h (fun r23 s24 h => ?_)
            refine R_eqs (st2 := [vI r23]) rfl rfl ?_
            obtain ⟨q25, h⟩ := h
            exact R_zreturn e_X11_mean_2.2.1 rfl q25 h
theorem S_X11_mean_64 {G : Kg} {σ : Kmem} {Q : Int → Kmem → Prop} {l1 l2 l3 l4 l6 : Int}  (h : (rI l6) ∧ (rI l3) ∧ ((l3 ≤ l6 → Run G WX M_X11_tellFraction 0 0 0 [vA G 0, vL l4, vL l3] σ (fun r28 s29 => Run G WX M_X11_grant 0 0 0 [vA G 0] s29 (fun r30 s31 => (r30 = 0 ∨ r30 = 1) ∧ Q r30 s31))) ∧ (l6 < l3 → Run G WX M_X0_copy 1 0 0 [vA G 31, vA G 5] σ (fun r33 s34 => Run G WX M_X4_run 6 0 0 [vA G 80, vA G 64, vA G 31, vA G 58, vI (l2 + l6)] s34 (fun r35 s36 => (0 ≤ l1 ∧ l1 < 6) ∧ (rI (s36 (31 + 6 + l1) 7)) ∧ E_X11_mean_64 G l1 l2 l3 (l4 + (s36 (31 + 6 + l1) 7)) (l6 + 1) s36 Q))))) : E_X11_mean_64 G l1 l2 l3 l4 l6 σ Q := by
  refine R_iload e_X11_mean_3.2.2.2.2.1 5 rfl ?_
  refine R_iload_n e_X11_mean_3.2.2.2.2.2.1 3 rfl ?_
  obtain ⟨q26, h⟩ := h
  obtain ⟨q27, h⟩ := h
  refine R_icmp_ge 128 e_X11_mean_3.2.2.2.2.2.2.1 (by decide) q26 q27 (fun q => ?_) (fun q => ?_)
  · replace h := h.1 q
    refine R_aload_n e_X11_mean_6.2.2.2.2.2.2.1 0 rfl ?_
    refine R_lload e_X11_mean_6.2.2.2.2.2.2.2.1 4 rfl ?_
    refine R_iload_n e_X11_mean_6.2.2.2.2.2.2.2.2.1 3 rfl ?_
    refine R_i2l e_X11_mean_6.2.2.2.2.2.2.2.2.2 q27 ?_
    refine R_callV (mc := 0) (ms := 0) (mc' := 0) (ms' := 0) (M' := M_X11_tellFraction) (d' := 0) (as := [vL l4, vL l3]) (st := []) 11 2 e_X11_mean_7.1 (kCVof m_X11_tellFraction l_X11_454) rfl (by decide) kx_0 (by decide) (by decide) rfl rfl (by show (0 : Nat) ≤ 8; decide) ?_
    refine Run.mono h (fun r28 s29 h => ?_)
    refine R_eqs (st2 := []) rfl rfl ?_
    refine R_aload_n e_X11_mean_7.2.1 0 rfl ?_
    refine R_callV (mc := 0) (ms := 0) (mc' := 0) (ms' := 0) (M' := M_X11_grant) (d' := 0) (as := []) (st := []) 11 0 e_X11_mean_7.2.2.1 (kCVof m_X11_grant l_X11_120) rfl (by decide) kx_0 (by decide) (by decide) rfl rfl (by show (0 : Nat) ≤ 8; decide) ?_
    refine Run.mono h (fun r30 s31 h => ?_)
    refine R_eqs (st2 := [vI r30]) rfl rfl ?_
    obtain ⟨q32, h⟩ := h
    exact R_zreturn e_X11_mean_7.2.2.2 rfl q32 h
  · replace h := h.2 q
    refine R_aload_n e_X11_mean_3.2.2.2.2.2.2.2.1 0 rfl ?_
    refine R_getA 11 8 31 e_X11_mean_3.2.2.2.2.2.2.2.2.1 f_X11_47 kx_0 (fun _ _ => rfl) rx_0_8 (by decide) ?_
    refine R_aload_n e_X11_mean_3.2.2.2.2.2.2.2.2.2 0 rfl ?_
    refine R_getA 11 7 5 e_X11_mean_4.1 f_X11_43 kx_0 (fun _ _ => rfl) rx_0_7 (by decide) ?_
    refine R_callV (mc := 0) (ms := 0) (mc' := 0) (ms' := 0) (M' := M_X0_copy) (d' := 1) (as := [vA G 5]) (st := []) 0 1 e_X11_mean_4.2.1 (kCVof m_X0_copy l_X11_167) rfl (by decide) (kC_self isC_31) (by decide) (by decide) rfl rfl (by show (0 : Nat) ≤ 8; decide) ?_
    refine Run.mono h (fun r33 s34 h => ?_)
    refine R_eqs (st2 := []) rfl rfl ?_
    refine R_aload_n e_X11_mean_4.2.2.1 0 rfl ?_
    refine R_getA 11 14 80 e_X11_mean_4.2.2.2.1 f_X11_85 kx_0 (fun _ _ => rfl) rx_0_14 (by decide) ?_
    refine R_aload_n e_X11_mean_4.2.2.2.2.1 0 rfl ?_
    refine R_getA 11 11 64 e_X11_mean_4.2.2.2.2.2.1 f_X11_71 kx_0 (fun _ _ => rfl) rx_0_11 (by decide) ?_
    refine R_aload_n e_X11_mean_4.2.2.2.2.2.2.1 0 rfl ?_
    refine R_getA 11 8 31 e_X11_mean_4.2.2.2.2.2.2.2.1 f_X11_47 kx_0 (fun _ _ => rfl) rx_0_8 (by decide) ?_
    refine R_aload_n e_X11_mean_4.2.2.2.2.2.2.2.2.1 0 rfl ?_
    refine R_getA 11 10 58 e_X11_mean_4.2.2.2.2.2.2.2.2.2 f_X11_64 kx_0 (fun _ _ => rfl) rx_0_10 (by decide) ?_
    refine R_iload_n e_X11_mean_5.1 2 rfl ?_
    refine R_iload e_X11_mean_5.2.1 5 rfl ?_
    refine R_iadd e_X11_mean_5.2.2.1 ?_
    refine R_callV (mc := 0) (ms := 0) (mc' := 0) (ms' := 0) (M' := M_X4_run) (d' := 6) (as := [vA G 64, vA G 31, vA G 58, vI (l2 + l6)]) (st := []) 4 4 e_X11_mean_5.2.2.2.1 (kCVof m_X4_run l_X11_461) rfl (by decide) (kL_self isLf_80) (by decide) (by decide) rfl rfl (by show (0 : Nat) ≤ 8; decide) ?_
    refine Run.mono h (fun r35 s36 h => ?_)
    refine R_eqs (st2 := []) rfl rfl ?_
    refine R_lload e_X11_mean_5.2.2.2.2.1 4 rfl ?_
    refine R_aload_n e_X11_mean_5.2.2.2.2.2.1 0 rfl ?_
    refine R_getA 11 8 31 e_X11_mean_5.2.2.2.2.2.2.1 f_X11_47 kx_0 (fun _ _ => rfl) rx_0_8 (by decide) ?_
    refine R_getA 0 10 (31 + 3) e_X11_mean_5.2.2.2.2.2.2.2.1 f_X11_241 (kC_self isC_31) (fun _ _ => rfl) (kC_r10 isC_31) (kC_n3 isC_31) ?_
    refine R_iload_n e_X11_mean_5.2.2.2.2.2.2.2.2.1 1 rfl ?_
    obtain ⟨q37, h⟩ := h
    refine R_aald 27 6 (31 + 6 + l1) e_X11_mean_5.2.2.2.2.2.2.2.2.2 (by decide) (kC_kites isC_31) q37 (kC_kiteAt isC_31 q37) (kC_kiteN isC_31 q37) ?_
    refine R_getI 3 7 7 e_X11_mean_6.1 f_X11_262 (kC_kite isC_31 q37) (fun _ _ => rfl) rfl ?_
    obtain ⟨q38, h⟩ := h
    refine R_i2l e_X11_mean_6.2.1 q38 ?_
    refine R_ladd e_X11_mean_6.2.2.1 ?_
    refine R_lstore (ls2 := [(4, vL (l4 + (s36 (31 + 6 + l1) 7))), (0, vA G 0), (1, vI l1), (2, vI l2), (3, vI l3), (6, vI l6)]) e_X11_mean_6.2.2.2.1 (by decide) rfl ?_
    refine R_iinc (ls2 := [(6, vI (l6 + 1)), (4, vL (l4 + (s36 (31 + 6 + l1) 7))), (0, vA G 0), (1, vI l1), (2, vI l2), (3, vI l3)]) e_X11_mean_6.2.2.2.2.1 5 rfl (by decide) rfl ?_
    refine R_goto 64 e_X11_mean_6.2.2.2.2.2.1 (by decide) ?_
    refine R_ls (ls2 := [(0, vA G 0), (1, vI l1), (2, vI l2), (3, vI l3), (4, vL (l4 + (s36 (31 + 6 + l1) 7))), (6, vI (l6 + 1))]) [2, 3, 4, 5, 1, 0] rfl ?_
    exact h
/-! KiteLand.mark()I -/
theorem e_X11_mark_0 : decode cX11_mark 0 = .ok (.aload_n 0, 1) ∧ decode cX11_mark 1 = .ok (.getfield 105, 3) ∧ decode cX11_mark 4 = .ok (.iconst 3, 1) ∧ decode cX11_mark 5 = .ok (.if_icmp .ne 9, 3) ∧ decode cX11_mark 8 = .ok (.aload_n 0, 1) ∧ decode cX11_mark 9 = .ok (.iconst 4, 1) ∧ decode cX11_mark 10 = .ok (.invokevirtual 132, 3) ∧ decode cX11_mark 13 = .ok (.ireturn, 1) ∧ decode cX11_mark 14 = .ok (.aload_n 0, 1) ∧ decode cX11_mark 15 = .ok (.getfield 97, 3) := by decide +kernel
theorem e_X11_mark_1 : decode cX11_mark 18 = .ok (.aload_n 0, 1) ∧ decode cX11_mark 19 = .ok (.getfield 105, 3) ∧ decode cX11_mark 22 = .ok (.aaload, 1) ∧ decode cX11_mark 23 = .ok (.aload_n 0, 1) ∧ decode cX11_mark 24 = .ok (.getfield 43, 3) ∧ decode cX11_mark 27 = .ok (.invokevirtual 167, 3) ∧ decode cX11_mark 30 = .ok (.aload_n 0, 1) ∧ decode cX11_mark 31 = .ok (.getfield 101, 3) ∧ decode cX11_mark 34 = .ok (.aload_n 0, 1) ∧ decode cX11_mark 35 = .ok (.getfield 105, 3) := by decide +kernel
theorem e_X11_mark_2 : decode cX11_mark 38 = .ok (.aaload, 1) ∧ decode cX11_mark 39 = .ok (.aload_n 0, 1) ∧ decode cX11_mark 40 = .ok (.getfield 71, 3) ∧ decode cX11_mark 43 = .ok (.invokevirtual 182, 3) ∧ decode cX11_mark 46 = .ok (.aload_n 0, 1) ∧ decode cX11_mark 47 = .ok (.dup, 1) ∧ decode cX11_mark 48 = .ok (.getfield 105, 3) ∧ decode cX11_mark 51 = .ok (.iconst 1, 1) ∧ decode cX11_mark 52 = .ok (.iadd, 1) ∧ decode cX11_mark 53 = .ok (.putfield 105, 3) := by decide +kernel
theorem e_X11_mark_3 : decode cX11_mark 56 = .ok (.aload_n 0, 1) ∧ decode cX11_mark 57 = .ok (.aload_n 0, 1) ∧ decode cX11_mark 58 = .ok (.getfield 105, 3) ∧ decode cX11_mark 61 = .ok (.invokevirtual 176, 3) ∧ decode cX11_mark 64 = .ok (.ireturn, 1) := by decide +kernel
theorem S_X11_mark {G : Kg} {σ : Kmem} {Q : Int → Kmem → Prop}  (h : (rI (σ 0 18)) ∧ ((σ 0 18 ≠ 3 → (0 ≤ σ 0 18 ∧ σ 0 18 < 3) ∧ Run G WX M_X0_copy 1 0 0 [vA G (adC (σ 0 18)), vA G 5] σ (fun r3 s4 => (0 ≤ s4 0 18 ∧ s4 0 18 < 3) ∧ Run G WX M_X7_copy 1 0 0 [vA G (adS (s4 0 18)), vA G 64] s4 (fun r6 s7 => Run G WX M_X11_give 0 0 0 [vA G 0, vI ((kup s7 0 18 ((s7 0 18) + 1)) 0 18)] (kup s7 0 18 ((s7 0 18) + 1)) (fun r8 s9 => Q r8 s9)))) ∧ (σ 0 18 = 3 → Run G WX M_X11_deny 0 0 0 [vA G 0, vI 4] σ (fun r10 s11 => Q r10 s11)))) : Run G WX M_X11_mark 2 0 0 [vA G 0] σ Q := by
  refine Run.of (by decide +kernel) (by show (1 : Nat) ≤ 1; decide) ?_
  show Ex G WX M_X11_mark 2 0 0 0 [(0, vA G 0)] [] σ Q
  refine R_aload_n e_X11_mark_0.1 0 rfl ?_
  refine R_getI 11 18 18 e_X11_mark_0.2.1 f_X11_105 kx_0 (fun _ _ => rfl) rfl ?_
  refine R_iconst e_X11_mark_0.2.2.1 ?_
  obtain ⟨q1, h⟩ := h
  refine R_icmp_ne 14 e_X11_mark_0.2.2.2.1 (by decide) q1 (by decide) (fun q => ?_) (fun q => ?_)
  · replace h := h.1 q
    refine R_aload_n e_X11_mark_0.2.2.2.2.2.2.2.2.1 0 rfl ?_
    refine R_getA 11 16 96 e_X11_mark_0.2.2.2.2.2.2.2.2.2 f_X11_97 kx_0 (fun _ _ => rfl) rx_0_16 (by decide) ?_
    refine R_aload_n e_X11_mark_1.1 0 rfl ?_
    refine R_getI 11 18 18 e_X11_mark_1.2.1 f_X11_105 kx_0 (fun _ _ => rfl) rfl ?_
    obtain ⟨q2, h⟩ := h
    refine R_aald 25 3 (adC (σ 0 18)) e_X11_mark_1.2.2.1 (by decide) kxa_96 q2 (adC_at q2) (adC_n q2) ?_
    refine R_aload_n e_X11_mark_1.2.2.2.1 0 rfl ?_
    refine R_getA 11 7 5 e_X11_mark_1.2.2.2.2.1 f_X11_43 kx_0 (fun _ _ => rfl) rx_0_7 (by decide) ?_
    refine R_callV (mc := 0) (ms := 0) (mc' := 0) (ms' := 0) (M' := M_X0_copy) (d' := 1) (as := [vA G 5]) (st := []) 0 1 e_X11_mark_1.2.2.2.2.2.1 (kCVof m_X0_copy l_X11_167) rfl (by decide) (kC_self (adC_is q2)) (by decide) (by decide) rfl rfl (by show (0 : Nat) ≤ 8; decide) ?_
    refine Run.mono h (fun r3 s4 h => ?_)
    refine R_eqs (st2 := []) rfl rfl ?_
    refine R_aload_n e_X11_mark_1.2.2.2.2.2.2.1 0 rfl ?_
    refine R_getA 11 17 97 e_X11_mark_1.2.2.2.2.2.2.2.1 f_X11_101 kx_0 (fun _ _ => rfl) rx_0_17 (by decide) ?_
    refine R_aload_n e_X11_mark_1.2.2.2.2.2.2.2.2.1 0 rfl ?_
    refine R_getI 11 18 18 e_X11_mark_1.2.2.2.2.2.2.2.2.2 f_X11_105 kx_0 (fun _ _ => rfl) rfl ?_
    obtain ⟨q5, h⟩ := h
    refine R_aald 26 3 (adS (s4 0 18)) e_X11_mark_2.1 (by decide) kxa_97 q5 (adS_at q5) (adS_n q5) ?_
    refine R_aload_n e_X11_mark_2.2.1 0 rfl ?_
    refine R_getA 11 11 64 e_X11_mark_2.2.2.1 f_X11_71 kx_0 (fun _ _ => rfl) rx_0_11 (by decide) ?_
    refine R_callV (mc := 0) (ms := 0) (mc' := 0) (ms' := 0) (M' := M_X7_copy) (d' := 1) (as := [vA G 64]) (st := []) 7 1 e_X11_mark_2.2.2.2.1 (kCVof m_X7_copy l_X11_182) rfl (by decide) (kS_self (adS_is q5)) (by decide) (by decide) rfl rfl (by show (0 : Nat) ≤ 8; decide) ?_
    refine Run.mono h (fun r6 s7 h => ?_)
    refine R_eqs (st2 := []) rfl rfl ?_
    refine R_aload_n e_X11_mark_2.2.2.2.2.1 0 rfl ?_
    refine R_dup e_X11_mark_2.2.2.2.2.2.1 rfl ?_
    refine R_getI 11 18 18 e_X11_mark_2.2.2.2.2.2.2.1 f_X11_105 kx_0 (fun _ _ => rfl) rfl ?_
    refine R_iconst e_X11_mark_2.2.2.2.2.2.2.2.1 ?_
    refine R_iadd e_X11_mark_2.2.2.2.2.2.2.2.2.1 ?_
    refine R_putI 11 18 18 WX_ok e_X11_mark_2.2.2.2.2.2.2.2.2.2 f_X11_105 kx_0 rfl rfl rfl ?_
    refine R_aload_n e_X11_mark_3.1 0 rfl ?_
    refine R_aload_n e_X11_mark_3.2.1 0 rfl ?_
    refine R_getI 11 18 18 e_X11_mark_3.2.2.1 f_X11_105 kx_0 (fun _ _ => rfl) rfl ?_
    refine R_callV (mc := 0) (ms := 0) (mc' := 0) (ms' := 0) (M' := M_X11_give) (d' := 0) (as := [vI ((kup s7 0 18 ((s7 0 18) + 1)) 0 18)]) (st := []) 11 1 e_X11_mark_3.2.2.2.1 (kCVof m_X11_give l_X11_176) rfl (by decide) kx_0 (by decide) (by decide) rfl rfl (by show (0 : Nat) ≤ 8; decide) ?_
    refine Run.mono h (fun r8 s9 h => ?_)
    refine R_eqs (st2 := [vI r8]) rfl rfl ?_
    exact R_ireturn e_X11_mark_3.2.2.2.2 rfl h
  · replace h := h.2 q
    refine R_aload_n e_X11_mark_0.2.2.2.2.1 0 rfl ?_
    refine R_iconst e_X11_mark_0.2.2.2.2.2.1 ?_
    refine R_callV (mc := 0) (ms := 0) (mc' := 0) (ms' := 0) (M' := M_X11_deny) (d' := 0) (as := [vI 4]) (st := []) 11 1 e_X11_mark_0.2.2.2.2.2.2.1 (kCVof m_X11_deny l_X11_132) rfl (by decide) kx_0 (by decide) (by decide) rfl rfl (by show (0 : Nat) ≤ 8; decide) ?_
    refine Run.mono h (fun r10 s11 h => ?_)
    refine R_eqs (st2 := [vI r10]) rfl rfl ?_
    exact R_ireturn e_X11_mark_0.2.2.2.2.2.2.2.1 rfl h
/-! KiteLand.undo()I -/
theorem e_X11_undo_0 : decode cX11_undo 0 = .ok (.aload_n 0, 1) ∧ decode cX11_undo 1 = .ok (.getfield 105, 3) ∧ decode cX11_undo 4 = .ok (.ifCond .ne 10, 3) ∧ decode cX11_undo 7 = .ok (.aload_n 0, 1) ∧ decode cX11_undo 8 = .ok (.bipush 6, 2) ∧ decode cX11_undo 10 = .ok (.invokevirtual 132, 3) ∧ decode cX11_undo 13 = .ok (.ireturn, 1) ∧ decode cX11_undo 14 = .ok (.aload_n 0, 1) ∧ decode cX11_undo 15 = .ok (.dup, 1) ∧ decode cX11_undo 16 = .ok (.getfield 105, 3) := by decide +kernel
theorem e_X11_undo_1 : decode cX11_undo 19 = .ok (.iconst 1, 1) ∧ decode cX11_undo 20 = .ok (.isub, 1) ∧ decode cX11_undo 21 = .ok (.putfield 105, 3) ∧ decode cX11_undo 24 = .ok (.aload_n 0, 1) ∧ decode cX11_undo 25 = .ok (.getfield 43, 3) ∧ decode cX11_undo 28 = .ok (.aload_n 0, 1) ∧ decode cX11_undo 29 = .ok (.getfield 97, 3) ∧ decode cX11_undo 32 = .ok (.aload_n 0, 1) ∧ decode cX11_undo 33 = .ok (.getfield 105, 3) ∧ decode cX11_undo 36 = .ok (.aaload, 1) := by decide +kernel
theorem e_X11_undo_2 : decode cX11_undo 37 = .ok (.invokevirtual 167, 3) ∧ decode cX11_undo 40 = .ok (.aload_n 0, 1) ∧ decode cX11_undo 41 = .ok (.getfield 71, 3) ∧ decode cX11_undo 44 = .ok (.aload_n 0, 1) ∧ decode cX11_undo 45 = .ok (.getfield 101, 3) ∧ decode cX11_undo 48 = .ok (.aload_n 0, 1) ∧ decode cX11_undo 49 = .ok (.getfield 105, 3) ∧ decode cX11_undo 52 = .ok (.aaload, 1) ∧ decode cX11_undo 53 = .ok (.invokevirtual 182, 3) ∧ decode cX11_undo 56 = .ok (.aload_n 0, 1) := by decide +kernel
theorem e_X11_undo_3 : decode cX11_undo 57 = .ok (.aload_n 0, 1) ∧ decode cX11_undo 58 = .ok (.getfield 105, 3) ∧ decode cX11_undo 61 = .ok (.invokevirtual 176, 3) ∧ decode cX11_undo 64 = .ok (.ireturn, 1) := by decide +kernel
theorem S_X11_undo {G : Kg} {σ : Kmem} {Q : Int → Kmem → Prop}  (h : (rI (σ 0 18)) ∧ ((σ 0 18 ≠ 0 → (0 ≤ (kup σ 0 18 ((σ 0 18) - 1)) 0 18 ∧ (kup σ 0 18 ((σ 0 18) - 1)) 0 18 < 3) ∧ Run G WX M_X0_copy 1 0 0 [vA G 5, vA G (adC ((kup σ 0 18 ((σ 0 18) - 1)) 0 18))] (kup σ 0 18 ((σ 0 18) - 1)) (fun r3 s4 => (0 ≤ s4 0 18 ∧ s4 0 18 < 3) ∧ Run G WX M_X7_copy 1 0 0 [vA G 64, vA G (adS (s4 0 18))] s4 (fun r6 s7 => Run G WX M_X11_give 0 0 0 [vA G 0, vI (s7 0 18)] s7 (fun r8 s9 => Q r8 s9)))) ∧ (σ 0 18 = 0 → Run G WX M_X11_deny 0 0 0 [vA G 0, vI 6] σ (fun r10 s11 => Q r10 s11)))) : Run G WX M_X11_undo 2 0 0 [vA G 0] σ Q := by
  refine Run.of (by decide +kernel) (by show (1 : Nat) ≤ 1; decide) ?_
  show Ex G WX M_X11_undo 2 0 0 0 [(0, vA G 0)] [] σ Q
  refine R_aload_n e_X11_undo_0.1 0 rfl ?_
  refine R_getI 11 18 18 e_X11_undo_0.2.1 f_X11_105 kx_0 (fun _ _ => rfl) rfl ?_
  obtain ⟨q1, h⟩ := h
  refine R_if_ne 14 e_X11_undo_0.2.2.1 (by decide) q1  (fun q => ?_) (fun q => ?_)
  · replace h := h.1 q
    refine R_aload_n e_X11_undo_0.2.2.2.2.2.2.2.1 0 rfl ?_
    refine R_dup e_X11_undo_0.2.2.2.2.2.2.2.2.1 rfl ?_
    refine R_getI 11 18 18 e_X11_undo_0.2.2.2.2.2.2.2.2.2 f_X11_105 kx_0 (fun _ _ => rfl) rfl ?_
    refine R_iconst e_X11_undo_1.1 ?_
    refine R_isub e_X11_undo_1.2.1 ?_
    refine R_putI 11 18 18 WX_ok e_X11_undo_1.2.2.1 f_X11_105 kx_0 rfl rfl rfl ?_
    refine R_aload_n e_X11_undo_1.2.2.2.1 0 rfl ?_
    refine R_getA 11 7 5 e_X11_undo_1.2.2.2.2.1 f_X11_43 kx_0 (fun _ _ => rfl) rx_0_7 (by decide) ?_
    refine R_aload_n e_X11_undo_1.2.2.2.2.2.1 0 rfl ?_
    refine R_getA 11 16 96 e_X11_undo_1.2.2.2.2.2.2.1 f_X11_97 kx_0 (fun _ _ => rfl) rx_0_16 (by decide) ?_
    refine R_aload_n e_X11_undo_1.2.2.2.2.2.2.2.1 0 rfl ?_
    refine R_getI 11 18 18 e_X11_undo_1.2.2.2.2.2.2.2.2.1 f_X11_105 kx_0 (fun _ _ => rfl) rfl ?_
    obtain ⟨q2, h⟩ := h
    refine R_aald 25 3 (adC ((kup σ 0 18 ((σ 0 18) - 1)) 0 18)) e_X11_undo_1.2.2.2.2.2.2.2.2.2 (by decide) kxa_96 q2 (adC_at q2) (adC_n q2) ?_
    refine R_callV (mc := 0) (ms := 0) (mc' := 0) (ms' := 0) (M' := M_X0_copy) (d' := 1) (as := [vA G (adC ((kup σ 0 18 ((σ 0 18) - 1)) 0 18))]) (st := []) 0 1 e_X11_undo_2.1 (kCVof m_X0_copy l_X11_167) rfl (by decide) (kC_self isC_5) (by decide) (by decide) rfl rfl (by show (0 : Nat) ≤ 8; decide) ?_
    refine Run.mono h (fun r3 s4 h => ?_)
    refine R_eqs (st2 := []) rfl rfl ?_
    refine R_aload_n e_X11_undo_2.2.1 0 rfl ?_
    refine R_getA 11 11 64 e_X11_undo_2.2.2.1 f_X11_71 kx_0 (fun _ _ => rfl) rx_0_11 (by decide) ?_
    refine R_aload_n e_X11_undo_2.2.2.2.1 0 rfl ?_
    refine R_getA 11 17 97 e_X11_undo_2.2.2.2.2.1 f_X11_101 kx_0 (fun _ _ => rfl) rx_0_17 (by decide) ?_
    refine R_aload_n e_X11_undo_2.2.2.2.2.2.1 0 rfl ?_
    refine R_getI 11 18 18 e_X11_undo_2.2.2.2.2.2.2.1 f_X11_105 kx_0 (fun _ _ => rfl) rfl ?_
    obtain ⟨q5, h⟩ := h
    refine R_aald 26 3 (adS (s4 0 18)) e_X11_undo_2.2.2.2.2.2.2.2.1 (by decide) kxa_97 q5 (adS_at q5) (adS_n q5) ?_
    refine R_callV (mc := 0) (ms := 0) (mc' := 0) (ms' := 0) (M' := M_X7_copy) (d' := 1) (as := [vA G (adS (s4 0 18))]) (st := []) 7 1 e_X11_undo_2.2.2.2.2.2.2.2.2.1 (kCVof m_X7_copy l_X11_182) rfl (by decide) (kS_self isS_64) (by decide) (by decide) rfl rfl (by show (0 : Nat) ≤ 8; decide) ?_
    refine Run.mono h (fun r6 s7 h => ?_)
    refine R_eqs (st2 := []) rfl rfl ?_
    refine R_aload_n e_X11_undo_2.2.2.2.2.2.2.2.2.2 0 rfl ?_
    refine R_aload_n e_X11_undo_3.1 0 rfl ?_
    refine R_getI 11 18 18 e_X11_undo_3.2.1 f_X11_105 kx_0 (fun _ _ => rfl) rfl ?_
    refine R_callV (mc := 0) (ms := 0) (mc' := 0) (ms' := 0) (M' := M_X11_give) (d' := 0) (as := [vI (s7 0 18)]) (st := []) 11 1 e_X11_undo_3.2.2.1 (kCVof m_X11_give l_X11_176) rfl (by decide) kx_0 (by decide) (by decide) rfl rfl (by show (0 : Nat) ≤ 8; decide) ?_
    refine Run.mono h (fun r8 s9 h => ?_)
    refine R_eqs (st2 := [vI r8]) rfl rfl ?_
    exact R_ireturn e_X11_undo_3.2.2.2 rfl h
  · replace h := h.2 q
    refine R_aload_n e_X11_undo_0.2.2.2.1 0 rfl ?_
    refine R_bipush e_X11_undo_0.2.2.2.2.1 (by decide) ?_
    refine R_callV (mc := 0) (ms := 0) (mc' := 0) (ms' := 0) (M' := M_X11_deny) (d' := 0) (as := [vI 6]) (st := []) 11 1 e_X11_undo_0.2.2.2.2.2.1 (kCVof m_X11_deny l_X11_132) rfl (by decide) kx_0 (by decide) (by decide) rfl rfl (by show (0 : Nat) ≤ 8; decide) ?_
    refine Run.mono h (fun r10 s11 h => ?_)
    refine R_eqs (st2 := [vI r10]) rfl rfl ?_
    exact R_ireturn e_X11_undo_0.2.2.2.2.2.2.1 rfl h
/-! KiteLand.give(I)I -/
theorem e_X11_give_0 : decode cX11_give 0 = .ok (.aload_n 0, 1) ∧ decode cX11_give 1 = .ok (.iconst 0, 1) ∧ decode cX11_give 2 = .ok (.putfield 9, 3) ∧ decode cX11_give 5 = .ok (.iload_n 1, 1) ∧ decode cX11_give 6 = .ok (.ireturn, 1) := by decide +kernel
theorem S_X11_give {G : Kg} {σ : Kmem} {Q : Int → Kmem → Prop} {l1 : Int}  (h : Q l1 (kup σ 0 0 0)) : Run G WX M_X11_give 0 0 0 [vA G 0, vI l1] σ Q := by
  refine Run.of (by decide +kernel) (by show (2 : Nat) ≤ 2; decide) ?_
  show Ex G WX M_X11_give 0 0 0 0 [(0, vA G 0), (1, vI l1)] [] σ Q
  refine R_aload_n e_X11_give_0.1 0 rfl ?_
  refine R_iconst e_X11_give_0.2.1 ?_
  refine R_putI 11 0 0 WX_ok e_X11_give_0.2.2.1 f_X11_9 kx_0 rfl rfl rfl ?_
  refine R_iload_n e_X11_give_0.2.2.2.1 1 rfl ?_
  exact R_ireturn e_X11_give_0.2.2.2.2 rfl h
/-! KiteLand.deny(I)I -/
theorem e_X11_deny_0 : decode cX11_deny 0 = .ok (.aload_n 0, 1) ∧ decode cX11_deny 1 = .ok (.iload_n 1, 1) ∧ decode cX11_deny 2 = .ok (.putfield 9, 3) ∧ decode cX11_deny 5 = .ok (.iconst (-1), 1) ∧ decode cX11_deny 6 = .ok (.ireturn, 1) := by decide +kernel
theorem S_X11_deny {G : Kg} {σ : Kmem} {Q : Int → Kmem → Prop} {l1 : Int}  (h : Q (-1) (kup σ 0 0 l1)) : Run G WX M_X11_deny 0 0 0 [vA G 0, vI l1] σ Q := by
  refine Run.of (by decide +kernel) (by show (2 : Nat) ≤ 2; decide) ?_
  show Ex G WX M_X11_deny 0 0 0 0 [(0, vA G 0), (1, vI l1)] [] σ Q
  refine R_aload_n e_X11_deny_0.1 0 rfl ?_
  refine R_iload_n e_X11_deny_0.2.1 1 rfl ?_
  refine R_putI 11 0 0 WX_ok e_X11_deny_0.2.2.1 f_X11_9 kx_0 rfl rfl rfl ?_
  refine R_iconst e_X11_deny_0.2.2.2.1 ?_
  exact R_ireturn e_X11_deny_0.2.2.2.2 rfl h
/-! KiteLand.grant()Z -/
theorem e_X11_grant_0 : decode cX11_grant 0 = .ok (.aload_n 0, 1) ∧ decode cX11_grant 1 = .ok (.iconst 0, 1) ∧ decode cX11_grant 2 = .ok (.putfield 9, 3) ∧ decode cX11_grant 5 = .ok (.iconst 1, 1) ∧ decode cX11_grant 6 = .ok (.ireturn, 1) := by decide +kernel
theorem S_X11_grant {G : Kg} {σ : Kmem} {Q : Int → Kmem → Prop}  (h : Q 1 (kup σ 0 0 0)) : Run G WX M_X11_grant 0 0 0 [vA G 0] σ Q := by
  refine Run.of (by decide +kernel) (by show (1 : Nat) ≤ 1; decide) ?_
  show Ex G WX M_X11_grant 0 0 0 0 [(0, vA G 0)] [] σ Q
  refine R_aload_n e_X11_grant_0.1 0 rfl ?_
  refine R_iconst e_X11_grant_0.2.1 ?_
  refine R_putI 11 0 0 WX_ok e_X11_grant_0.2.2.1 f_X11_9 kx_0 rfl rfl rfl ?_
  refine R_iconst e_X11_grant_0.2.2.2.1 ?_
  exact R_zreturn e_X11_grant_0.2.2.2.2 rfl (Or.inr rfl) h
/-! KiteLand.refuse(I)Z -/
theorem e_X11_refuse_0 : decode cX11_refuse 0 = .ok (.aload_n 0, 1) ∧ decode cX11_refuse 1 = .ok (.iload_n 1, 1) ∧ decode cX11_refuse 2 = .ok (.putfield 9, 3) ∧ decode cX11_refuse 5 = .ok (.iconst 0, 1) ∧ decode cX11_refuse 6 = .ok (.ireturn, 1) := by decide +kernel
theorem S_X11_refuse {G : Kg} {σ : Kmem} {Q : Int → Kmem → Prop} {l1 : Int}  (h : Q 0 (kup σ 0 0 l1)) : Run G WX M_X11_refuse 0 0 0 [vA G 0, vI l1] σ Q := by
  refine Run.of (by decide +kernel) (by show (2 : Nat) ≤ 2; decide) ?_
  show Ex G WX M_X11_refuse 0 0 0 0 [(0, vA G 0), (1, vI l1)] [] σ Q
  refine R_aload_n e_X11_refuse_0.1 0 rfl ?_
  refine R_iload_n e_X11_refuse_0.2.1 1 rfl ?_
  refine R_putI 11 0 0 WX_ok e_X11_refuse_0.2.2.1 f_X11_9 kx_0 rfl rfl rfl ?_
  refine R_iconst e_X11_refuse_0.2.2.2.1 ?_
  exact R_zreturn e_X11_refuse_0.2.2.2.2 rfl (Or.inl rfl) h
/-! KiteLand.tellFraction(JJ)V -/
theorem e_X11_tellFraction_0 : decode cX11_tellFraction 0 = .ok (.lload_n 1, 1) ∧ decode cX11_tellFraction 1 = .ok (.lstore 5, 2) ∧ decode cX11_tellFraction 3 = .ok (.lload_n 3, 1) ∧ decode cX11_tellFraction 4 = .ok (.lstore 7, 2) ∧ decode cX11_tellFraction 6 = .ok (.iconst 0, 1) ∧ decode cX11_tellFraction 7 = .ok (.istore 9, 2) ∧ decode cX11_tellFraction 9 = .ok (.iload 9, 2) ∧ decode cX11_tellFraction 11 = .ok (.bipush 100, 2) ∧ decode cX11_tellFraction 13 = .ok (.if_icmp .ge 31, 3) ∧ decode cX11_tellFraction 16 = .ok (.lload 7, 2) := by decide +kernel
theorem e_X11_tellFraction_1 : decode cX11_tellFraction 18 = .ok (.lconst 0, 1) ∧ decode cX11_tellFraction 19 = .ok (.lcmp, 1) ∧ decode cX11_tellFraction 20 = .ok (.ifCond .eq 24, 3) ∧ decode cX11_tellFraction 23 = .ok (.lload 5, 2) ∧ decode cX11_tellFraction 25 = .ok (.lload 7, 2) ∧ decode cX11_tellFraction 27 = .ok (.lrem, 1) ∧ decode cX11_tellFraction 28 = .ok (.lstore 10, 2) ∧ decode cX11_tellFraction 30 = .ok (.lload 7, 2) ∧ decode cX11_tellFraction 32 = .ok (.lstore 5, 2) ∧ decode cX11_tellFraction 34 = .ok (.lload 10, 2) := by decide +kernel
theorem e_X11_tellFraction_2 : decode cX11_tellFraction 36 = .ok (.lstore 7, 2) ∧ decode cX11_tellFraction 38 = .ok (.iinc 9 1, 3) ∧ decode cX11_tellFraction 41 = .ok (.goto (-32), 3) ∧ decode cX11_tellFraction 44 = .ok (.lload 5, 2) ∧ decode cX11_tellFraction 46 = .ok (.lconst 0, 1) ∧ decode cX11_tellFraction 47 = .ok (.lcmp, 1) ∧ decode cX11_tellFraction 48 = .ok (.ifCond .le 19, 3) ∧ decode cX11_tellFraction 51 = .ok (.aload_n 0, 1) ∧ decode cX11_tellFraction 52 = .ok (.lload_n 1, 1) ∧ decode cX11_tellFraction 53 = .ok (.lload 5, 2) := by decide +kernel
theorem e_X11_tellFraction_3 : decode cX11_tellFraction 55 = .ok (.ldiv, 1) ∧ decode cX11_tellFraction 56 = .ok (.putfield 13, 3) ∧ decode cX11_tellFraction 59 = .ok (.aload_n 0, 1) ∧ decode cX11_tellFraction 60 = .ok (.lload_n 3, 1) ∧ decode cX11_tellFraction 61 = .ok (.lload 5, 2) ∧ decode cX11_tellFraction 63 = .ok (.ldiv, 1) ∧ decode cX11_tellFraction 64 = .ok (.putfield 17, 3) ∧ decode cX11_tellFraction 67 = .ok (.return_, 1) := by decide +kernel
abbrev E_X11_tellFraction_9 (G : Kg) (l1 l3 l5 l7 l9 : Int) (σ : Kmem) (Q : Int → Kmem → Prop) : Prop := Ex G WX M_X11_tellFraction 0 0 0 9 [(0, vA G 0), (1, vL l1), (3, vL l3), (5, vL l5), (7, vL l7), (9, vI l9)] [] σ Q
theorem S_X11_tellFraction {G : Kg} {σ : Kmem} {Q : Int → Kmem → Prop} {l1 l3 : Int}  (h : E_X11_tellFraction_9 G l1 l3 l1 l3 0 σ Q) : Run G WX M_X11_tellFraction 0 0 0 [vA G 0, vL l1, vL l3] σ Q := by
  refine Run.of (by decide +kernel) (by show (5 : Nat) ≤ 12; decide) ?_
  show Ex G WX M_X11_tellFraction 0 0 0 0 [(0, vA G 0), (1, vL l1), (3, vL l3)] [] σ Q
  refine R_lload_n e_X11_tellFraction_0.1 1 rfl ?_
  refine R_lstore (ls2 := [(5, vL l1), (0, vA G 0), (1, vL l1), (3, vL l3)]) e_X11_tellFraction_0.2.1 (by decide) rfl ?_
  refine R_lload_n e_X11_tellFraction_0.2.2.1 3 rfl ?_
  refine R_lstore (ls2 := [(7, vL l3), (5, vL l1), (0, vA G 0), (1, vL l1), (3, vL l3)]) e_X11_tellFraction_0.2.2.2.1 (by decide) rfl ?_
  refine R_iconst e_X11_tellFraction_0.2.2.2.2.1 ?_
  refine R_istore (ls2 := [(9, vI 0), (7, vL l3), (5, vL l1), (0, vA G 0), (1, vL l1), (3, vL l3)]) e_X11_tellFraction_0.2.2.2.2.2.1 (by decide) rfl ?_
  refine R_ls (ls2 := [(0, vA G 0), (1, vL l1), (3, vL l3), (5, vL l1), (7, vL l3), (9, vI 0)]) [3, 4, 5, 2, 1, 0] rfl ?_
  exact h
theorem S_X11_tellFraction_9 {G : Kg} {σ : Kmem} {Q : Int → Kmem → Prop} {l1 l3 l5 l7 l9 : Int}  (h : (rI l9) ∧ ((100 ≤ l9 → (rL l5) ∧ ((l5 ≤ 0 → Q 0 σ) ∧ (0 < l5 → (0 ≤ l1 ∧ l1 ≤ 9223372036854775807) ∧ (0 < l5 ∧ l5 ≤ 9223372036854775807) ∧ (0 ≤ l3 ∧ l3 ≤ 9223372036854775807) ∧ (0 < l5 ∧ l5 ≤ 9223372036854775807) ∧ Q 0 (kup (kup σ 0 1 (l1 / l5)) 0 2 (l3 / l5))))) ∧ (l9 < 100 → (rL l7) ∧ ((l7 = 0 → (rL l5) ∧ ((l5 ≤ 0 → Q 0 σ) ∧ (0 < l5 → (0 ≤ l1 ∧ l1 ≤ 9223372036854775807) ∧ (0 < l5 ∧ l5 ≤ 9223372036854775807) ∧ (0 ≤ l3 ∧ l3 ≤ 9223372036854775807) ∧ (0 < l5 ∧ l5 ≤ 9223372036854775807) ∧ Q 0 (kup (kup σ 0 1 (l1 / l5)) 0 2 (l3 / l5))))) ∧ (l7 ≠ 0 → (0 ≤ l5 ∧ l5 ≤ 9223372036854775807) ∧ (0 < l7 ∧ l7 ≤ 9223372036854775807) ∧ E_X11_tellFraction_9 G l1 l3 l7 (l5 % l7) (l9 + 1) σ Q))))) : E_X11_tellFraction_9 G l1 l3 l5 l7 l9 σ Q := by
  refine R_iload e_X11_tellFraction_0.2.2.2.2.2.2.1 5 rfl ?_
  refine R_bipush e_X11_tellFraction_0.2.2.2.2.2.2.2.1 (by decide) ?_
  obtain ⟨q1, h⟩ := h
  refine R_icmp_ge 44 e_X11_tellFraction_0.2.2.2.2.2.2.2.2.1 (by decide) q1 (by decide) (fun q => ?_) (fun q => ?_)
  · replace h := h.1 q
    refine R_lload e_X11_tellFraction_2.2.2.2.1 3 rfl ?_
    refine R_lconst 0 e_X11_tellFraction_2.2.2.2.2.1 (by decide) ?_
    obtain ⟨q2, h⟩ := h
    refine R_lcmp e_X11_tellFraction_2.2.2.2.2.2.1 q2 (by decide) ?_
    refine R_if_le 67 e_X11_tellFraction_2.2.2.2.2.2.2.1 (by decide) (kcmp_r _ _) (fun q => ?_) (fun q => ?_)
    · replace h := h.1 (kcmp_le_t.mp q)
      exact R_return e_X11_tellFraction_3.2.2.2.2.2.2.2 rfl h
    · replace h := h.2 (kcmp_le_f.mp q)
      refine R_aload_n e_X11_tellFraction_2.2.2.2.2.2.2.2.1 0 rfl ?_
      refine R_lload_n e_X11_tellFraction_2.2.2.2.2.2.2.2.2.1 1 rfl ?_
      refine R_lload e_X11_tellFraction_2.2.2.2.2.2.2.2.2.2 3 rfl ?_
      obtain ⟨q3, h⟩ := h
      obtain ⟨q4, h⟩ := h
      refine R_ldiv e_X11_tellFraction_3.1 q3 q4 ?_
      refine R_putL 11 1 1 WX_ok e_X11_tellFraction_3.2.1 f_X11_13 kx_0 rfl rfl rfl ?_
      refine R_aload_n e_X11_tellFraction_3.2.2.1 0 rfl ?_
      refine R_lload_n e_X11_tellFraction_3.2.2.2.1 2 rfl ?_
      refine R_lload e_X11_tellFraction_3.2.2.2.2.1 3 rfl ?_
      obtain ⟨q5, h⟩ := h
      obtain ⟨q6, h⟩ := h
      refine R_ldiv e_X11_tellFraction_3.2.2.2.2.2.1 q5 q6 ?_
      refine R_putL 11 2 2 WX_ok e_X11_tellFraction_3.2.2.2.2.2.2.1 f_X11_17 kx_0 rfl rfl rfl ?_
      exact R_return e_X11_tellFraction_3.2.2.2.2.2.2.2 rfl h
  · replace h := h.2 q
    refine R_lload e_X11_tellFraction_0.2.2.2.2.2.2.2.2.2 4 rfl ?_
    refine R_lconst 0 e_X11_tellFraction_1.1 (by decide) ?_
    obtain ⟨q7, h⟩ := h
    refine R_lcmp e_X11_tellFraction_1.2.1 q7 (by decide) ?_
    refine R_if_eq 44 e_X11_tellFraction_1.2.2.1 (by decide) (kcmp_r _ _) (fun q => ?_) (fun q => ?_)
    · replace h := h.1 (kcmp_eq_t.mp q)
      refine R_lload e_X11_tellFraction_2.2.2.2.1 3 rfl ?_
      refine R_lconst 0 e_X11_tellFraction_2.2.2.2.2.1 (by decide) ?_
      obtain ⟨q8, h⟩ := h
      refine R_lcmp e_X11_tellFraction_2.2.2.2.2.2.1 q8 (by decide) ?_
      refine R_if_le 67 e_X11_tellFraction_2.2.2.2.2.2.2.1 (by decide) (kcmp_r _ _) (fun q => ?_) (fun q => ?_)
      · replace h := h.1 (kcmp_le_t.mp q)
        exact R_return e_X11_tellFraction_3.2.2.2.2.2.2.2 rfl h
      · replace h := h.2 (kcmp_le_f.mp q)
        refine R_aload_n e_X11_tellFraction_2.2.2.2.2.2.2.2.1 0 rfl ?_
        refine R_lload_n e_X11_tellFraction_2.2.2.2.2.2.2.2.2.1 1 rfl ?_
        refine R_lload e_X11_tellFraction_2.2.2.2.2.2.2.2.2.2 3 rfl ?_
        obtain ⟨q9, h⟩ := h
        obtain ⟨q10, h⟩ := h
        refine R_ldiv e_X11_tellFraction_3.1 q9 q10 ?_
        refine R_putL 11 1 1 WX_ok e_X11_tellFraction_3.2.1 f_X11_13 kx_0 rfl rfl rfl ?_
        refine R_aload_n e_X11_tellFraction_3.2.2.1 0 rfl ?_
        refine R_lload_n e_X11_tellFraction_3.2.2.2.1 2 rfl ?_
        refine R_lload e_X11_tellFraction_3.2.2.2.2.1 3 rfl ?_
        obtain ⟨q11, h⟩ := h
        obtain ⟨q12, h⟩ := h
        refine R_ldiv e_X11_tellFraction_3.2.2.2.2.2.1 q11 q12 ?_
        refine R_putL 11 2 2 WX_ok e_X11_tellFraction_3.2.2.2.2.2.2.1 f_X11_17 kx_0 rfl rfl rfl ?_
        exact R_return e_X11_tellFraction_3.2.2.2.2.2.2.2 rfl h
    · replace h := h.2 (kcmp_eq_f.mp q)
      refine R_lload e_X11_tellFraction_1.2.2.2.1 3 rfl ?_
      refine R_lload e_X11_tellFraction_1.2.2.2.2.1 4 rfl ?_
      obtain ⟨q13, h⟩ := h
      obtain ⟨q14, h⟩ := h
      refine R_lrem e_X11_tellFraction_1.2.2.2.2.2.1 q13 q14 ?_
      refine R_lstore (ls2 := [(10, vL (l5 % l7)), (0, vA G 0), (1, vL l1), (3, vL l3), (5, vL l5), (7, vL l7), (9, vI l9)]) e_X11_tellFraction_1.2.2.2.2.2.2.1 (by decide) rfl ?_
      refine R_lload e_X11_tellFraction_1.2.2.2.2.2.2.2.1 5 rfl ?_
      refine R_lstore (ls2 := [(5, vL l7), (10, vL (l5 % l7)), (0, vA G 0), (1, vL l1), (3, vL l3), (7, vL l7), (9, vI l9)]) e_X11_tellFraction_1.2.2.2.2.2.2.2.2.1 (by decide) rfl ?_
      refine R_lload e_X11_tellFraction_1.2.2.2.2.2.2.2.2.2 1 rfl ?_
      refine R_lstore (ls2 := [(7, vL (l5 % l7)), (5, vL l7), (10, vL (l5 % l7)), (0, vA G 0), (1, vL l1), (3, vL l3), (9, vI l9)]) e_X11_tellFraction_2.1 (by decide) rfl ?_
      refine R_iinc (ls2 := [(9, vI (l9 + 1)), (7, vL (l5 % l7)), (5, vL l7), (10, vL (l5 % l7)), (0, vA G 0), (1, vL l1), (3, vL l3)]) e_X11_tellFraction_2.2.1 6 rfl (by decide) rfl ?_
      refine R_goto 9 e_X11_tellFraction_2.2.2.1 (by decide) ?_
      refine R_ls (ls2 := [(0, vA G 0), (1, vL l1), (3, vL l3), (5, vL l7), (7, vL (l5 % l7)), (9, vI (l9 + 1))]) [4, 5, 6, 2, 1, 0] rfl ?_
      exact h
/-! KiteLand.isTray(I)Z -/
theorem e_X11_isTray_0 : decode cX11_isTray 0 = .ok (.iload_n 1, 1) ∧ decode cX11_isTray 1 = .ok (.ifCond .lt 12, 3) ∧ decode cX11_isTray 4 = .ok (.iload_n 1, 1) ∧ decode cX11_isTray 5 = .ok (.iconst 4, 1) ∧ decode cX11_isTray 6 = .ok (.if_icmp .ge 7, 3) ∧ decode cX11_isTray 9 = .ok (.iconst 1, 1) ∧ decode cX11_isTray 10 = .ok (.goto 4, 3) ∧ decode cX11_isTray 13 = .ok (.iconst 0, 1) ∧ decode cX11_isTray 14 = .ok (.ireturn, 1) := by decide +kernel
theorem S_X11_isTray {G : Kg} {σ : Kmem} {Q : Int → Kmem → Prop} {l1 : Int}  (h : (rI l1) ∧ ((l1 < 0 → Q 0 σ) ∧ (0 ≤ l1 → ((4 ≤ l1 → Q 0 σ) ∧ (l1 < 4 → Q 1 σ))))) : Run G WX M_X11_isTray 0 0 0 [vA G 0, vI l1] σ Q := by
  refine Run.of (by decide +kernel) (by show (2 : Nat) ≤ 2; decide) ?_
  show Ex G WX M_X11_isTray 0 0 0 0 [(0, vA G 0), (1, vI l1)] [] σ Q
  refine R_iload_n e_X11_isTray_0.1 1 rfl ?_
  obtain ⟨q1, h⟩ := h
  refine R_if_lt 13 e_X11_isTray_0.2.1 (by decide) q1  (fun q => ?_) (fun q => ?_)
  · replace h := h.1 q
    refine R_iconst e_X11_isTray_0.2.2.2.2.2.2.2.1 ?_
    exact R_zreturn e_X11_isTray_0.2.2.2.2.2.2.2.2 rfl (Or.inl rfl) h
  · replace h := h.2 q
    refine R_iload_n e_X11_isTray_0.2.2.1 1 rfl ?_
    refine R_iconst e_X11_isTray_0.2.2.2.1 ?_
    refine R_icmp_ge 13 e_X11_isTray_0.2.2.2.2.1 (by decide) q1 (by decide) (fun q => ?_) (fun q => ?_)
    · replace h := h.1 q
      refine R_iconst e_X11_isTray_0.2.2.2.2.2.2.2.1 ?_
      exact R_zreturn e_X11_isTray_0.2.2.2.2.2.2.2.2 rfl (Or.inl rfl) h
    · replace h := h.2 q
      refine R_iconst e_X11_isTray_0.2.2.2.2.2.1 ?_
      refine R_goto 14 e_X11_isTray_0.2.2.2.2.2.2.1 (by decide) ?_
      exact R_zreturn e_X11_isTray_0.2.2.2.2.2.2.2.2 rfl (Or.inr rfl) h
/-! KiteLand.isHourOfDay(I)Z -/
theorem e_X11_isHourOfDay_0 : decode cX11_isHourOfDay 0 = .ok (.iload_n 1, 1) ∧ decode cX11_isHourOfDay 1 = .ok (.ifCond .lt 13, 3) ∧ decode cX11_isHourOfDay 4 = .ok (.iload_n 1, 1) ∧ decode cX11_isHourOfDay 5 = .ok (.bipush 12, 2) ∧ decode cX11_isHourOfDay 7 = .ok (.if_icmp .ge 7, 3) ∧ decode cX11_isHourOfDay 10 = .ok (.iconst 1, 1) ∧ decode cX11_isHourOfDay 11 = .ok (.goto 4, 3) ∧ decode cX11_isHourOfDay 14 = .ok (.iconst 0, 1) ∧ decode cX11_isHourOfDay 15 = .ok (.ireturn, 1) := by decide +kernel
theorem S_X11_isHourOfDay {G : Kg} {σ : Kmem} {Q : Int → Kmem → Prop} {l1 : Int}  (h : (rI l1) ∧ ((l1 < 0 → Q 0 σ) ∧ (0 ≤ l1 → ((12 ≤ l1 → Q 0 σ) ∧ (l1 < 12 → Q 1 σ))))) : Run G WX M_X11_isHourOfDay 0 0 0 [vA G 0, vI l1] σ Q := by
  refine Run.of (by decide +kernel) (by show (2 : Nat) ≤ 2; decide) ?_
  show Ex G WX M_X11_isHourOfDay 0 0 0 0 [(0, vA G 0), (1, vI l1)] [] σ Q
  refine R_iload_n e_X11_isHourOfDay_0.1 1 rfl ?_
  obtain ⟨q1, h⟩ := h
  refine R_if_lt 14 e_X11_isHourOfDay_0.2.1 (by decide) q1  (fun q => ?_) (fun q => ?_)
  · replace h := h.1 q
    refine R_iconst e_X11_isHourOfDay_0.2.2.2.2.2.2.2.1 ?_
    exact R_zreturn e_X11_isHourOfDay_0.2.2.2.2.2.2.2.2 rfl (Or.inl rfl) h
  · replace h := h.2 q
    refine R_iload_n e_X11_isHourOfDay_0.2.2.1 1 rfl ?_
    refine R_bipush e_X11_isHourOfDay_0.2.2.2.1 (by decide) ?_
    refine R_icmp_ge 14 e_X11_isHourOfDay_0.2.2.2.2.1 (by decide) q1 (by decide) (fun q => ?_) (fun q => ?_)
    · replace h := h.1 q
      refine R_iconst e_X11_isHourOfDay_0.2.2.2.2.2.2.2.1 ?_
      exact R_zreturn e_X11_isHourOfDay_0.2.2.2.2.2.2.2.2 rfl (Or.inl rfl) h
    · replace h := h.2 q
      refine R_iconst e_X11_isHourOfDay_0.2.2.2.2.2.1 ?_
      refine R_goto 15 e_X11_isHourOfDay_0.2.2.2.2.2.2.1 (by decide) ?_
      exact R_zreturn e_X11_isHourOfDay_0.2.2.2.2.2.2.2.2 rfl (Or.inr rfl) h
/-! KiteLand.isAhead(I)Z -/
theorem e_X11_isAhead_0 : decode cX11_isAhead 0 = .ok (.iload_n 1, 1) ∧ decode cX11_isAhead 1 = .ok (.ifCond .lt 13, 3) ∧ decode cX11_isAhead 4 = .ok (.iload_n 1, 1) ∧ decode cX11_isAhead 5 = .ok (.bipush 99, 2) ∧ decode cX11_isAhead 7 = .ok (.if_icmp .gt 7, 3) ∧ decode cX11_isAhead 10 = .ok (.iconst 1, 1) ∧ decode cX11_isAhead 11 = .ok (.goto 4, 3) ∧ decode cX11_isAhead 14 = .ok (.iconst 0, 1) ∧ decode cX11_isAhead 15 = .ok (.ireturn, 1) := by decide +kernel
theorem S_X11_isAhead {G : Kg} {σ : Kmem} {Q : Int → Kmem → Prop} {l1 : Int}  (h : (rI l1) ∧ ((l1 < 0 → Q 0 σ) ∧ (0 ≤ l1 → ((99 < l1 → Q 0 σ) ∧ (l1 ≤ 99 → Q 1 σ))))) : Run G WX M_X11_isAhead 0 0 0 [vA G 0, vI l1] σ Q := by
  refine Run.of (by decide +kernel) (by show (2 : Nat) ≤ 2; decide) ?_
  show Ex G WX M_X11_isAhead 0 0 0 0 [(0, vA G 0), (1, vI l1)] [] σ Q
  refine R_iload_n e_X11_isAhead_0.1 1 rfl ?_
  obtain ⟨q1, h⟩ := h
  refine R_if_lt 14 e_X11_isAhead_0.2.1 (by decide) q1  (fun q => ?_) (fun q => ?_)
  · replace h := h.1 q
    refine R_iconst e_X11_isAhead_0.2.2.2.2.2.2.2.1 ?_
    exact R_zreturn e_X11_isAhead_0.2.2.2.2.2.2.2.2 rfl (Or.inl rfl) h
  · replace h := h.2 q
    refine R_iload_n e_X11_isAhead_0.2.2.1 1 rfl ?_
    refine R_bipush e_X11_isAhead_0.2.2.2.1 (by decide) ?_
    refine R_icmp_gt 14 e_X11_isAhead_0.2.2.2.2.1 (by decide) q1 (by decide) (fun q => ?_) (fun q => ?_)
    · replace h := h.1 q
      refine R_iconst e_X11_isAhead_0.2.2.2.2.2.2.2.1 ?_
      exact R_zreturn e_X11_isAhead_0.2.2.2.2.2.2.2.2 rfl (Or.inl rfl) h
    · replace h := h.2 q
      refine R_iconst e_X11_isAhead_0.2.2.2.2.2.1 ?_
      refine R_goto 15 e_X11_isAhead_0.2.2.2.2.2.2.1 (by decide) ?_
      exact R_zreturn e_X11_isAhead_0.2.2.2.2.2.2.2.2 rfl (Or.inr rfl) h
/-! KiteLand.fieldNumber(II)I -/
theorem e_X11_fieldNumber_0 : decode cX11_fieldNumber 0 = .ok (.iload_n 2, 1) ∧ decode cX11_fieldNumber 1 = .ok (.bipush 10, 2) ∧ decode cX11_fieldNumber 3 = .ok (.imul, 1) ∧ decode cX11_fieldNumber 4 = .ok (.iload_n 1, 1) ∧ decode cX11_fieldNumber 5 = .ok (.iadd, 1) ∧ decode cX11_fieldNumber 6 = .ok (.ireturn, 1) := by decide +kernel
theorem S_X11_fieldNumber {G : Kg} {σ : Kmem} {Q : Int → Kmem → Prop} {l1 l2 : Int}  (h : Q ((l2 * 10) + l1) σ) : Run G WX M_X11_fieldNumber 0 0 0 [vA G 0, vI l1, vI l2] σ Q := by
  refine Run.of (by decide +kernel) (by show (3 : Nat) ≤ 3; decide) ?_
  show Ex G WX M_X11_fieldNumber 0 0 0 0 [(0, vA G 0), (1, vI l1), (2, vI l2)] [] σ Q
  refine R_iload_n e_X11_fieldNumber_0.1 2 rfl ?_
  refine R_bipush e_X11_fieldNumber_0.2.1 (by decide) ?_
  refine R_imul e_X11_fieldNumber_0.2.2.1 ?_
  refine R_iload_n e_X11_fieldNumber_0.2.2.2.1 1 rfl ?_
  refine R_iadd e_X11_fieldNumber_0.2.2.2.2.1 ?_
  exact R_ireturn e_X11_fieldNumber_0.2.2.2.2.2 rfl h
/-! KiteLand.placeStatus(II)I -/
theorem e_X11_placeStatus_0 : decode cX11_placeStatus 0 = .ok (.aload_n 0, 1) ∧ decode cX11_placeStatus 1 = .ok (.iload_n 1, 1) ∧ decode cX11_placeStatus 2 = .ok (.invokevirtual 109, 3) ∧ decode cX11_placeStatus 5 = .ok (.ifCond .ne 5, 3) ∧ decode cX11_placeStatus 8 = .ok (.iconst 1, 1) ∧ decode cX11_placeStatus 9 = .ok (.ireturn, 1) ∧ decode cX11_placeStatus 10 = .ok (.aload_n 0, 1) ∧ decode cX11_placeStatus 11 = .ok (.getfield 22, 3) ∧ decode cX11_placeStatus 14 = .ok (.iload_n 1, 1) ∧ decode cX11_placeStatus 15 = .ok (.aaload, 1) := by decide +kernel
theorem e_X11_placeStatus_1 : decode cX11_placeStatus 16 = .ok (.getfield 140, 3) ∧ decode cX11_placeStatus 19 = .ok (.ifCond .ne 5, 3) ∧ decode cX11_placeStatus 22 = .ok (.iconst 2, 1) ∧ decode cX11_placeStatus 23 = .ok (.ireturn, 1) ∧ decode cX11_placeStatus 24 = .ok (.iload_n 2, 1) ∧ decode cX11_placeStatus 25 = .ok (.ifCond .lt 16, 3) ∧ decode cX11_placeStatus 28 = .ok (.iload_n 2, 1) ∧ decode cX11_placeStatus 29 = .ok (.aload_n 0, 1) ∧ decode cX11_placeStatus 30 = .ok (.getfield 22, 3) ∧ decode cX11_placeStatus 33 = .ok (.iload_n 1, 1) := by decide +kernel
theorem e_X11_placeStatus_2 : decode cX11_placeStatus 34 = .ok (.aaload, 1) ∧ decode cX11_placeStatus 35 = .ok (.getfield 147, 3) ∧ decode cX11_placeStatus 38 = .ok (.if_icmp .lt 7, 3) ∧ decode cX11_placeStatus 41 = .ok (.iconst 3, 1) ∧ decode cX11_placeStatus 42 = .ok (.goto 4, 3) ∧ decode cX11_placeStatus 45 = .ok (.iconst 0, 1) ∧ decode cX11_placeStatus 46 = .ok (.ireturn, 1) := by decide +kernel
theorem S_X11_placeStatus {G : Kg} {σ : Kmem} {Q : Int → Kmem → Prop} {l1 l2 : Int}  (h : Run G WX M_X11_isTray 0 0 0 [vA G 0, vI l1] σ (fun r1 s2 => (rI r1) ∧ ((r1 ≠ 0 → (0 ≤ l1 ∧ l1 < 4) ∧ (rI (s2 (adT l1) 0)) ∧ ((s2 (adT l1) 0 ≠ 0 → (rI l2) ∧ ((l2 < 0 → Q 3 s2) ∧ (0 ≤ l2 → (0 ≤ l1 ∧ l1 < 4) ∧ (rI (s2 (adT l1) 2)) ∧ ((l2 < s2 (adT l1) 2 → Q 0 s2) ∧ (s2 (adT l1) 2 ≤ l2 → Q 3 s2))))) ∧ (s2 (adT l1) 0 = 0 → Q 2 s2))) ∧ (r1 = 0 → Q 1 s2)))) : Run G WX M_X11_placeStatus 1 0 0 [vA G 0, vI l1, vI l2] σ Q := by
  refine Run.of (by decide +kernel) (by show (3 : Nat) ≤ 3; decide) ?_
  show Ex G WX M_X11_placeStatus 1 0 0 0 [(0, vA G 0), (1, vI l1), (2, vI l2)] [] σ Q
  refine R_aload_n e_X11_placeStatus_0.1 0 rfl ?_
  refine R_iload_n e_X11_placeStatus_0.2.1 1 rfl ?_
  refine R_callV (mc := 0) (ms := 0) (mc' := 0) (ms' := 0) (M' := M_X11_isTray) (d' := 0) (as := [vI l1]) (st := []) 11 1 e_X11_placeStatus_0.2.2.1 (kCVof m_X11_isTray l_X11_109) rfl (by decide) kx_0 (by decide) (by decide) rfl rfl (by show (0 : Nat) ≤ 8; decide) ?_
  refine Run.mono h (fun r1 s2 h => ?_)
  refine R_eqs (st2 := [vI r1]) rfl rfl ?_
  obtain ⟨q3, h⟩ := h
  refine R_if_ne 10 e_X11_placeStatus_0.2.2.2.1 (by decide) q3  (fun q => ?_) (fun q => ?_)
  · replace h := h.1 q
    refine R_aload_n e_X11_placeStatus_0.2.2.2.2.2.2.1 0 rfl ?_
    refine R_getA 11 3 1 e_X11_placeStatus_0.2.2.2.2.2.2.2.1 f_X11_22 kx_0 (fun _ _ => rfl) rx_0_3 (by decide) ?_
    refine R_iload_n e_X11_placeStatus_0.2.2.2.2.2.2.2.2.1 1 rfl ?_
    obtain ⟨q4, h⟩ := h
    refine R_aald 24 4 (adT l1) e_X11_placeStatus_0.2.2.2.2.2.2.2.2.2 (by decide) kxa_1 q4 (adT_at q4) (adT_n q4) ?_
    refine R_getI 10 0 0 e_X11_placeStatus_1.1 f_X11_140 (kT_self (adT_is q4)) (fun _ _ => rfl) rfl ?_
    obtain ⟨q5, h⟩ := h
    refine R_if_ne 24 e_X11_placeStatus_1.2.1 (by decide) q5  (fun q => ?_) (fun q => ?_)
    · replace h := h.1 q
      refine R_iload_n e_X11_placeStatus_1.2.2.2.2.1 2 rfl ?_
      obtain ⟨q6, h⟩ := h
      refine R_if_lt 41 e_X11_placeStatus_1.2.2.2.2.2.1 (by decide) q6  (fun q => ?_) (fun q => ?_)
      · replace h := h.1 q
        refine R_iconst e_X11_placeStatus_2.2.2.2.1 ?_
        refine R_goto 46 e_X11_placeStatus_2.2.2.2.2.1 (by decide) ?_
        exact R_ireturn e_X11_placeStatus_2.2.2.2.2.2.2 rfl h
      · replace h := h.2 q
        refine R_iload_n e_X11_placeStatus_1.2.2.2.2.2.2.1 2 rfl ?_
        refine R_aload_n e_X11_placeStatus_1.2.2.2.2.2.2.2.1 0 rfl ?_
        refine R_getA 11 3 1 e_X11_placeStatus_1.2.2.2.2.2.2.2.2.1 f_X11_22 kx_0 (fun _ _ => rfl) rx_0_3 (by decide) ?_
        refine R_iload_n e_X11_placeStatus_1.2.2.2.2.2.2.2.2.2 1 rfl ?_
        obtain ⟨q7, h⟩ := h
        refine R_aald 24 4 (adT l1) e_X11_placeStatus_2.1 (by decide) kxa_1 q7 (adT_at q7) (adT_n q7) ?_
        refine R_getI 10 2 2 e_X11_placeStatus_2.2.1 f_X11_147 (kT_self (adT_is q7)) (fun _ _ => rfl) rfl ?_
        obtain ⟨q8, h⟩ := h
        refine R_icmp_lt 45 e_X11_placeStatus_2.2.2.1 (by decide) q6 q8 (fun q => ?_) (fun q => ?_)
        · replace h := h.1 q
          refine R_iconst e_X11_placeStatus_2.2.2.2.2.2.1 ?_
          exact R_ireturn e_X11_placeStatus_2.2.2.2.2.2.2 rfl h
        · replace h := h.2 q
          refine R_iconst e_X11_placeStatus_2.2.2.2.1 ?_
          refine R_goto 46 e_X11_placeStatus_2.2.2.2.2.1 (by decide) ?_
          exact R_ireturn e_X11_placeStatus_2.2.2.2.2.2.2 rfl h
    · replace h := h.2 q
      refine R_iconst e_X11_placeStatus_1.2.2.1 ?_
      exact R_ireturn e_X11_placeStatus_1.2.2.2.1 rfl h
  · replace h := h.2 q
    refine R_iconst e_X11_placeStatus_0.2.2.2.2.1 ?_
    exact R_ireturn e_X11_placeStatus_0.2.2.2.2.2.1 rfl h
/-! KiteLand.stripTrayStatus(I)I -/
theorem e_X11_stripTrayStatus_0 : decode cX11_stripTrayStatus 0 = .ok (.aload_n 0, 1) ∧ decode cX11_stripTrayStatus 1 = .ok (.getfield 22, 3) ∧ decode cX11_stripTrayStatus 4 = .ok (.iload_n 1, 1) ∧ decode cX11_stripTrayStatus 5 = .ok (.aaload, 1) ∧ decode cX11_stripTrayStatus 6 = .ok (.getfield 140, 3) ∧ decode cX11_stripTrayStatus 9 = .ok (.ifCond .ne 5, 3) ∧ decode cX11_stripTrayStatus 12 = .ok (.iconst 2, 1) ∧ decode cX11_stripTrayStatus 13 = .ok (.ireturn, 1) ∧ decode cX11_stripTrayStatus 14 = .ok (.aload_n 0, 1) ∧ decode cX11_stripTrayStatus 15 = .ok (.getfield 22, 3) := by decide +kernel
theorem e_X11_stripTrayStatus_1 : decode cX11_stripTrayStatus 18 = .ok (.iload_n 1, 1) ∧ decode cX11_stripTrayStatus 19 = .ok (.aaload, 1) ∧ decode cX11_stripTrayStatus 20 = .ok (.getfield 147, 3) ∧ decode cX11_stripTrayStatus 23 = .ok (.aload_n 0, 1) ∧ decode cX11_stripTrayStatus 24 = .ok (.getfield 43, 3) ∧ decode cX11_stripTrayStatus 27 = .ok (.getfield 194, 3) ∧ decode cX11_stripTrayStatus 30 = .ok (.if_icmp .ge 7, 3) ∧ decode cX11_stripTrayStatus 33 = .ok (.iconst 3, 1) ∧ decode cX11_stripTrayStatus 34 = .ok (.goto 4, 3) ∧ decode cX11_stripTrayStatus 37 = .ok (.iconst 0, 1) := by decide +kernel
theorem e_X11_stripTrayStatus_2 : decode cX11_stripTrayStatus 38 = .ok (.ireturn, 1) := by decide +kernel
theorem S_X11_stripTrayStatus {G : Kg} {σ : Kmem} {Q : Int → Kmem → Prop} {l1 : Int}  (h : (0 ≤ l1 ∧ l1 < 4) ∧ (rI (σ (adT l1) 0)) ∧ ((σ (adT l1) 0 ≠ 0 → (0 ≤ l1 ∧ l1 < 4) ∧ (rI (σ (adT l1) 2)) ∧ (rI (σ 5 0)) ∧ ((σ 5 0 ≤ σ (adT l1) 2 → Q 0 σ) ∧ (σ (adT l1) 2 < σ 5 0 → Q 3 σ))) ∧ (σ (adT l1) 0 = 0 → Q 2 σ))) : Run G WX M_X11_stripTrayStatus 0 0 0 [vA G 0, vI l1] σ Q := by
  refine Run.of (by decide +kernel) (by show (2 : Nat) ≤ 2; decide) ?_
  show Ex G WX M_X11_stripTrayStatus 0 0 0 0 [(0, vA G 0), (1, vI l1)] [] σ Q
  refine R_aload_n e_X11_stripTrayStatus_0.1 0 rfl ?_
  refine R_getA 11 3 1 e_X11_stripTrayStatus_0.2.1 f_X11_22 kx_0 (fun _ _ => rfl) rx_0_3 (by decide) ?_
  refine R_iload_n e_X11_stripTrayStatus_0.2.2.1 1 rfl ?_
  obtain ⟨q1, h⟩ := h
  refine R_aald 24 4 (adT l1) e_X11_stripTrayStatus_0.2.2.2.1 (by decide) kxa_1 q1 (adT_at q1) (adT_n q1) ?_
  refine R_getI 10 0 0 e_X11_stripTrayStatus_0.2.2.2.2.1 f_X11_140 (kT_self (adT_is q1)) (fun _ _ => rfl) rfl ?_
  obtain ⟨q2, h⟩ := h
  refine R_if_ne 14 e_X11_stripTrayStatus_0.2.2.2.2.2.1 (by decide) q2  (fun q => ?_) (fun q => ?_)
  · replace h := h.1 q
    refine R_aload_n e_X11_stripTrayStatus_0.2.2.2.2.2.2.2.2.1 0 rfl ?_
    refine R_getA 11 3 1 e_X11_stripTrayStatus_0.2.2.2.2.2.2.2.2.2 f_X11_22 kx_0 (fun _ _ => rfl) rx_0_3 (by decide) ?_
    refine R_iload_n e_X11_stripTrayStatus_1.1 1 rfl ?_
    obtain ⟨q3, h⟩ := h
    refine R_aald 24 4 (adT l1) e_X11_stripTrayStatus_1.2.1 (by decide) kxa_1 q3 (adT_at q3) (adT_n q3) ?_
    refine R_getI 10 2 2 e_X11_stripTrayStatus_1.2.2.1 f_X11_147 (kT_self (adT_is q3)) (fun _ _ => rfl) rfl ?_
    refine R_aload_n e_X11_stripTrayStatus_1.2.2.2.1 0 rfl ?_
    refine R_getA 11 7 5 e_X11_stripTrayStatus_1.2.2.2.2.1 f_X11_43 kx_0 (fun _ _ => rfl) rx_0_7 (by decide) ?_
    refine R_getI 0 0 0 e_X11_stripTrayStatus_1.2.2.2.2.2.1 f_X11_194 (kC_self isC_5) (fun _ _ => rfl) rfl ?_
    obtain ⟨q4, h⟩ := h
    obtain ⟨q5, h⟩ := h
    refine R_icmp_ge 37 e_X11_stripTrayStatus_1.2.2.2.2.2.2.1 (by decide) q4 q5 (fun q => ?_) (fun q => ?_)
    · replace h := h.1 q
      refine R_iconst e_X11_stripTrayStatus_1.2.2.2.2.2.2.2.2.2 ?_
      exact R_ireturn e_X11_stripTrayStatus_2 rfl h
    · replace h := h.2 q
      refine R_iconst e_X11_stripTrayStatus_1.2.2.2.2.2.2.2.1 ?_
      refine R_goto 38 e_X11_stripTrayStatus_1.2.2.2.2.2.2.2.2.1 (by decide) ?_
      exact R_ireturn e_X11_stripTrayStatus_2 rfl h
  · replace h := h.2 q
    refine R_iconst e_X11_stripTrayStatus_0.2.2.2.2.2.2.1 ?_
    exact R_ireturn e_X11_stripTrayStatus_0.2.2.2.2.2.2.2.1 rfl h
/-! KiteLand.coverStatus(III)I -/
theorem e_X11_coverStatus_0 : decode cX11_coverStatus 0 = .ok (.aload_n 0, 1) ∧ decode cX11_coverStatus 1 = .ok (.iload_n 1, 1) ∧ decode cX11_coverStatus 2 = .ok (.invokevirtual 109, 3) ∧ decode cX11_coverStatus 5 = .ok (.ifCond .eq 22, 3) ∧ decode cX11_coverStatus 8 = .ok (.iload_n 2, 1) ∧ decode cX11_coverStatus 9 = .ok (.iconst 1, 1) ∧ decode cX11_coverStatus 10 = .ok (.if_icmp .lt 17, 3) ∧ decode cX11_coverStatus 13 = .ok (.iload_n 2, 1) ∧ decode cX11_coverStatus 14 = .ok (.bipush 20, 2) ∧ decode cX11_coverStatus 16 = .ok (.if_icmp .gt 11, 3) := by decide +kernel
theorem e_X11_coverStatus_1 : decode cX11_coverStatus 19 = .ok (.aload_n 0, 1) ∧ decode cX11_coverStatus 20 = .ok (.iload_n 3, 1) ∧ decode cX11_coverStatus 21 = .ok (.invokevirtual 228, 3) ∧ decode cX11_coverStatus 24 = .ok (.ifCond .ne 5, 3) ∧ decode cX11_coverStatus 27 = .ok (.iconst 1, 1) ∧ decode cX11_coverStatus 28 = .ok (.ireturn, 1) ∧ decode cX11_coverStatus 29 = .ok (.aload_n 0, 1) ∧ decode cX11_coverStatus 30 = .ok (.getfield 22, 3) ∧ decode cX11_coverStatus 33 = .ok (.iload_n 1, 1) ∧ decode cX11_coverStatus 34 = .ok (.aaload, 1) := by decide +kernel
theorem e_X11_coverStatus_2 : decode cX11_coverStatus 35 = .ok (.getfield 140, 3) ∧ decode cX11_coverStatus 38 = .ok (.ifCond .ne 5, 3) ∧ decode cX11_coverStatus 41 = .ok (.iconst 2, 1) ∧ decode cX11_coverStatus 42 = .ok (.ireturn, 1) ∧ decode cX11_coverStatus 43 = .ok (.aload_n 0, 1) ∧ decode cX11_coverStatus 44 = .ok (.getfield 22, 3) ∧ decode cX11_coverStatus 47 = .ok (.iload_n 1, 1) ∧ decode cX11_coverStatus 48 = .ok (.aaload, 1) ∧ decode cX11_coverStatus 49 = .ok (.getfield 147, 3) ∧ decode cX11_coverStatus 52 = .ok (.iload_n 2, 1) := by decide +kernel
theorem e_X11_coverStatus_3 : decode cX11_coverStatus 53 = .ok (.if_icmp .ge 5, 3) ∧ decode cX11_coverStatus 56 = .ok (.iconst 3, 1) ∧ decode cX11_coverStatus 57 = .ok (.ireturn, 1) ∧ decode cX11_coverStatus 58 = .ok (.iconst 0, 1) ∧ decode cX11_coverStatus 59 = .ok (.istore 4, 2) ∧ decode cX11_coverStatus 61 = .ok (.iload 4, 2) ∧ decode cX11_coverStatus 63 = .ok (.iload_n 2, 1) ∧ decode cX11_coverStatus 64 = .ok (.if_icmp .ge 33, 3) ∧ decode cX11_coverStatus 67 = .ok (.aload_n 0, 1) ∧ decode cX11_coverStatus 68 = .ok (.getfield 43, 3) := by decide +kernel
theorem e_X11_coverStatus_4 : decode cX11_coverStatus 71 = .ok (.aload_n 0, 1) ∧ decode cX11_coverStatus 72 = .ok (.getfield 22, 3) ∧ decode cX11_coverStatus 75 = .ok (.iload_n 1, 1) ∧ decode cX11_coverStatus 76 = .ok (.aaload, 1) ∧ decode cX11_coverStatus 77 = .ok (.getfield 136, 3) ∧ decode cX11_coverStatus 80 = .ok (.iload 4, 2) ∧ decode cX11_coverStatus 82 = .ok (.laload, 1) ∧ decode cX11_coverStatus 83 = .ok (.invokevirtual 480, 3) ∧ decode cX11_coverStatus 86 = .ok (.ifCond .ne 5, 3) ∧ decode cX11_coverStatus 89 = .ok (.iconst 5, 1) := by decide +kernel
theorem e_X11_coverStatus_5 : decode cX11_coverStatus 90 = .ok (.ireturn, 1) ∧ decode cX11_coverStatus 91 = .ok (.iinc 4 1, 3) ∧ decode cX11_coverStatus 94 = .ok (.goto (-33), 3) ∧ decode cX11_coverStatus 97 = .ok (.aload_n 0, 1) ∧ decode cX11_coverStatus 98 = .ok (.getfield 64, 3) ∧ decode cX11_coverStatus 101 = .ok (.aload_n 0, 1) ∧ decode cX11_coverStatus 102 = .ok (.getfield 43, 3) ∧ decode cX11_coverStatus 105 = .ok (.iload_n 3, 1) ∧ decode cX11_coverStatus 106 = .ok (.invokevirtual 308, 3) ∧ decode cX11_coverStatus 109 = .ok (.aload_n 0, 1) := by decide +kernel
theorem e_X11_coverStatus_6 : decode cX11_coverStatus 110 = .ok (.getfield 93, 3) ∧ decode cX11_coverStatus 113 = .ok (.aload_n 0, 1) ∧ decode cX11_coverStatus 114 = .ok (.getfield 22, 3) ∧ decode cX11_coverStatus 117 = .ok (.iload_n 1, 1) ∧ decode cX11_coverStatus 118 = .ok (.aaload, 1) ∧ decode cX11_coverStatus 119 = .ok (.getfield 136, 3) ∧ decode cX11_coverStatus 122 = .ok (.iload_n 2, 1) ∧ decode cX11_coverStatus 123 = .ok (.invokevirtual 484, 3) ∧ decode cX11_coverStatus 126 = .ok (.ifCond .eq 7, 3) ∧ decode cX11_coverStatus 129 = .ok (.iconst 0, 1) := by decide +kernel
theorem e_X11_coverStatus_7 : decode cX11_coverStatus 130 = .ok (.goto 5, 3) ∧ decode cX11_coverStatus 133 = .ok (.bipush 6, 2) ∧ decode cX11_coverStatus 135 = .ok (.ireturn, 1) := by decide +kernel
abbrev E_X11_coverStatus_61 (G : Kg) (l1 l2 l3 l4 : Int) (σ : Kmem) (Q : Int → Kmem → Prop) : Prop := Ex G WX M_X11_coverStatus 4 0 0 61 [(0, vA G 0), (1, vI l1), (2, vI l2), (3, vI l3), (4, vI l4)] [] σ Q
theorem S_X11_coverStatus {G : Kg} {σ : Kmem} {Q : Int → Kmem → Prop} {l1 l2 l3 : Int}  (h : Run G WX M_X11_isTray 0 0 0 [vA G 0, vI l1] σ (fun r1 s2 => (rI r1) ∧ ((r1 = 0 → Q 1 s2) ∧ (r1 ≠ 0 → (rI l2) ∧ ((l2 < 1 → Q 1 s2) ∧ (1 ≤ l2 → ((20 < l2 → Q 1 s2) ∧ (l2 ≤ 20 → Run G WX M_X11_isHourOfDay 0 0 0 [vA G 0, vI l3] s2 (fun r5 s6 => (rI r5) ∧ ((r5 ≠ 0 → (0 ≤ l1 ∧ l1 < 4) ∧ (rI (s6 (adT l1) 0)) ∧ ((s6 (adT l1) 0 ≠ 0 → (0 ≤ l1 ∧ l1 < 4) ∧ (rI (s6 (adT l1) 2)) ∧ ((l2 ≤ s6 (adT l1) 2 → E_X11_coverStatus_61 G l1 l2 l3 0 s6 Q) ∧ (s6 (adT l1) 2 < l2 → Q 3 s6))) ∧ (s6 (adT l1) 0 = 0 → Q 2 s6))) ∧ (r5 = 0 → Q 1 s6))))))))))) : Run G WX M_X11_coverStatus 4 0 0 [vA G 0, vI l1, vI l2, vI l3] σ Q := by
  refine Run.of (by decide +kernel) (by show (4 : Nat) ≤ 5; decide) ?_
  show Ex G WX M_X11_coverStatus 4 0 0 0 [(0, vA G 0), (1, vI l1), (2, vI l2), (3, vI l3)] [] σ Q
  refine R_aload_n e_X11_coverStatus_0.1 0 rfl ?_
  refine R_iload_n e_X11_coverStatus_0.2.1 1 rfl ?_
  refine R_callV (mc := 0) (ms := 0) (mc' := 0) (ms' := 0) (M' := M_X11_isTray) (d' := 0) (as := [vI l1]) (st := []) 11 1 e_X11_coverStatus_0.2.2.1 (kCVof m_X11_isTray l_X11_109) rfl (by decide) kx_0 (by decide) (by decide) rfl rfl (by show (0 : Nat) ≤ 8; decide) ?_
  refine Run.mono h (fun r1 s2 h => ?_)
  refine R_eqs (st2 := [vI r1]) rfl rfl ?_
  obtain ⟨q3, h⟩ := h
  refine R_if_eq 27 e_X11_coverStatus_0.2.2.2.1 (by decide) q3  (fun q => ?_) (fun q => ?_)
  · replace h := h.1 q
    refine R_iconst e_X11_coverStatus_1.2.2.2.2.1 ?_
    exact R_ireturn e_X11_coverStatus_1.2.2.2.2.2.1 rfl h
  · replace h := h.2 q
    refine R_iload_n e_X11_coverStatus_0.2.2.2.2.1 2 rfl ?_
    refine R_iconst e_X11_coverStatus_0.2.2.2.2.2.1 ?_
    obtain ⟨q4, h⟩ := h
    refine R_icmp_lt 27 e_X11_coverStatus_0.2.2.2.2.2.2.1 (by decide) q4 (by decide) (fun q => ?_) (fun q => ?_)
    · replace h := h.1 q
      refine R_iconst e_X11_coverStatus_1.2.2.2.2.1 ?_
      exact R_ireturn e_X11_coverStatus_1.2.2.2.2.2.1 rfl h
    · replace h := h.2 q
      refine R_iload_n e_X11_coverStatus_0.2.2.2.2.2.2.2.1 2 rfl ?_
      refine R_bipush e_X11_coverStatus_0.2.2.2.2.2.2.2.2.1 (by decide) ?_
      refine R_icmp_gt 27 e_X11_coverStatus_0.2.2.2.2.2.2.2.2.2 (by decide) q4 (by decide) (fun q => ?_) (fun q => ?_)
      · replace h := h.1 q
        refine R_iconst e_X11_coverStatus_1.2.2.2.2.1 ?_
        exact R_ireturn e_X11_coverStatus_1.2.2.2.2.2.1 rfl h
      · replace h := h.2 q
        refine R_aload_n e_X11_coverStatus_1.1 0 rfl ?_
        refine R_iload_n e_X11_coverStatus_1.2.1 3 rfl ?_
        refine R_callV (mc := 0) (ms := 0) (mc' := 0) (ms' := 0) (M' := M_X11_isHourOfDay) (d' := 0) (as := [vI l3]) (st := []) 11 1 e_X11_coverStatus_1.2.2.1 (kCVof m_X11_isHourOfDay l_X11_228) rfl (by decide) kx_0 (by decide) (by decide) rfl rfl (by show (0 : Nat) ≤ 8; decide) ?_
        refine Run.mono h (fun r5 s6 h => ?_)
        refine R_eqs (st2 := [vI r5]) rfl rfl ?_
        obtain ⟨q7, h⟩ := h
        refine R_if_ne 29 e_X11_coverStatus_1.2.2.2.1 (by decide) q7  (fun q => ?_) (fun q => ?_)
        · replace h := h.1 q
          refine R_aload_n e_X11_coverStatus_1.2.2.2.2.2.2.1 0 rfl ?_
          refine R_getA 11 3 1 e_X11_coverStatus_1.2.2.2.2.2.2.2.1 f_X11_22 kx_0 (fun _ _ => rfl) rx_0_3 (by decide) ?_
          refine R_iload_n e_X11_coverStatus_1.2.2.2.2.2.2.2.2.1 1 rfl ?_
          obtain ⟨q8, h⟩ := h
          refine R_aald 24 4 (adT l1) e_X11_coverStatus_1.2.2.2.2.2.2.2.2.2 (by decide) kxa_1 q8 (adT_at q8) (adT_n q8) ?_
          refine R_getI 10 0 0 e_X11_coverStatus_2.1 f_X11_140 (kT_self (adT_is q8)) (fun _ _ => rfl) rfl ?_
          obtain ⟨q9, h⟩ := h
          refine R_if_ne 43 e_X11_coverStatus_2.2.1 (by decide) q9  (fun q => ?_) (fun q => ?_)
          · replace h := h.1 q
            refine R_aload_n e_X11_coverStatus_2.2.2.2.2.1 0 rfl ?_
            refine R_getA 11 3 1 e_X11_coverStatus_2.2.2.2.2.2.1 f_X11_22 kx_0 (fun _ _ => rfl) rx_0_3 (by decide) ?_
            refine R_iload_n e_X11_coverStatus_2.2.2.2.2.2.2.1 1 rfl ?_
            obtain ⟨q10, h⟩ := h
            refine R_aald 24 4 (adT l1) e_X11_coverStatus_2.2.2.2.2.2.2.2.1 (by decide) kxa_1 q10 (adT_at q10) (adT_n q10) ?_
            refine R_getI 10 2 2 e_X11_coverStatus_2.2.2.2.2.2.2.2.2.1 f_X11_147 (kT_self (adT_is q10)) (fun _ _ => rfl) rfl ?_
            refine R_iload_n e_X11_coverStatus_2.2.2.2.2.2.2.2.2.2 2 rfl ?_
            obtain ⟨q11, h⟩ := h
            refine R_icmp_ge 58 e_X11_coverStatus_3.1 (by decide) q11 q4 (fun q => ?_) (fun q => ?_)
            · replace h := h.1 q
              refine R_iconst e_X11_coverStatus_3.2.2.2.1 ?_
              refine R_istore (ls2 := [(4, vI 0), (0, vA G 0), (1, vI l1), (2, vI l2), (3, vI l3)]) e_X11_coverStatus_3.2.2.2.2.1 (by decide) rfl ?_
              refine R_ls (ls2 := [(0, vA G 0), (1, vI l1), (2, vI l2), (3, vI l3), (4, vI 0)]) [1, 2, 3, 4, 0] rfl ?_
              exact h
            · replace h := h.2 q
              refine R_iconst e_X11_coverStatus_3.2.1 ?_
              exact R_ireturn e_X11_coverStatus_3.2.2.1 rfl h
          · replace h := h.2 q
            refine R_iconst e_X11_coverStatus_2.2.2.1 ?_
            exact R_ireturn e_X11_coverStatus_2.2.2.2.1 rfl h
        · replace h := h.2 q
          refine R_iconst e_X11_coverStatus_1.2.2.2.2.1 ?_
          exact R_ireturn e_X11_coverStatus_1.2.2.2.2.2.1 rfl h
theorem S_X11_coverStatus_61 {G : Kg} {σ : Kmem} {Q : Int → Kmem → Prop} {l1 l2 l3 l4 : Int}  (h : (rI l4) ∧ (rI l2) ∧ ((l2 ≤ l4 → Run G WX M_X8_look 3 0 0 [vA G 58, vA G 5, vI l3] σ (fun r14 s15 => (0 ≤ l1 ∧ l1 < 4) ∧ Run G WX M_X5_seekCover 1 0 0 [vA G 82, vA G (adT l1 + 1), vI l2] s15 (fun r17 s18 => (rI r17) ∧ ((r17 = 0 → Q 6 s18) ∧ (r17 ≠ 0 → Q 0 s18))))) ∧ (l4 < l2 → (0 ≤ l1 ∧ l1 < 4) ∧ (0 ≤ l4 ∧ l4 < 60) ∧ Run G WX M_X0_hasFieldNumber 2 0 0 [vA G 5, vL (σ (adT l1 + 1) l4)] σ (fun r22 s23 => (rI r22) ∧ ((r22 ≠ 0 → E_X11_coverStatus_61 G l1 l2 l3 (l4 + 1) s23 Q) ∧ (r22 = 0 → Q 5 s23)))))) : E_X11_coverStatus_61 G l1 l2 l3 l4 σ Q := by
  refine R_iload e_X11_coverStatus_3.2.2.2.2.2.1 4 rfl ?_
  refine R_iload_n e_X11_coverStatus_3.2.2.2.2.2.2.1 2 rfl ?_
  obtain ⟨q12, h⟩ := h
  obtain ⟨q13, h⟩ := h
  refine R_icmp_ge 97 e_X11_coverStatus_3.2.2.2.2.2.2.2.1 (by decide) q12 q13 (fun q => ?_) (fun q => ?_)
  · replace h := h.1 q
    refine R_aload_n e_X11_coverStatus_5.2.2.2.1 0 rfl ?_
    refine R_getA 11 10 58 e_X11_coverStatus_5.2.2.2.2.1 f_X11_64 kx_0 (fun _ _ => rfl) rx_0_10 (by decide) ?_
    refine R_aload_n e_X11_coverStatus_5.2.2.2.2.2.1 0 rfl ?_
    refine R_getA 11 7 5 e_X11_coverStatus_5.2.2.2.2.2.2.1 f_X11_43 kx_0 (fun _ _ => rfl) rx_0_7 (by decide) ?_
    refine R_iload_n e_X11_coverStatus_5.2.2.2.2.2.2.2.1 3 rfl ?_
    refine R_callV (mc := 0) (ms := 0) (mc' := 0) (ms' := 0) (M' := M_X8_look) (d' := 3) (as := [vA G 5, vI l3]) (st := []) 8 2 e_X11_coverStatus_5.2.2.2.2.2.2.2.2.1 (kCVof m_X8_look l_X11_308) rfl (by decide) kx_58 (by decide) (by decide) rfl rfl (by show (0 : Nat) ≤ 8; decide) ?_
    refine Run.mono h (fun r14 s15 h => ?_)
    refine R_eqs (st2 := []) rfl rfl ?_
    refine R_aload_n e_X11_coverStatus_5.2.2.2.2.2.2.2.2.2 0 rfl ?_
    refine R_getA 11 15 82 e_X11_coverStatus_6.1 f_X11_93 kx_0 (fun _ _ => rfl) rx_0_15 (by decide) ?_
    refine R_aload_n e_X11_coverStatus_6.2.1 0 rfl ?_
    refine R_getA 11 3 1 e_X11_coverStatus_6.2.2.1 f_X11_22 kx_0 (fun _ _ => rfl) rx_0_3 (by decide) ?_
    refine R_iload_n e_X11_coverStatus_6.2.2.2.1 1 rfl ?_
    obtain ⟨q16, h⟩ := h
    refine R_aald 24 4 (adT l1) e_X11_coverStatus_6.2.2.2.2.1 (by decide) kxa_1 q16 (adT_at q16) (adT_n q16) ?_
    refine R_getA 10 3 (adT l1 + 1) e_X11_coverStatus_6.2.2.2.2.2.1 f_X11_136 (kT_self (adT_is q16)) (fun _ _ => rfl) (kT_r3 (adT_is q16)) (kT_n1 (adT_is q16)) ?_
    refine R_iload_n e_X11_coverStatus_6.2.2.2.2.2.2.1 2 rfl ?_
    refine R_callV (mc := 0) (ms := 0) (mc' := 0) (ms' := 0) (M' := M_X5_seekCover) (d' := 1) (as := [vA G (adT l1 + 1), vI l2]) (st := []) 5 2 e_X11_coverStatus_6.2.2.2.2.2.2.2.1 (kCVof m_X5_seekCover l_X11_484) rfl (by decide) kx_82 (by decide) (by decide) rfl rfl (by show (0 : Nat) ≤ 8; decide) ?_
    refine Run.mono h (fun r17 s18 h => ?_)
    refine R_eqs (st2 := [vI r17]) rfl rfl ?_
    obtain ⟨q19, h⟩ := h
    refine R_if_eq 133 e_X11_coverStatus_6.2.2.2.2.2.2.2.2.1 (by decide) q19  (fun q => ?_) (fun q => ?_)
    · replace h := h.1 q
      refine R_bipush e_X11_coverStatus_7.2.1 (by decide) ?_
      exact R_ireturn e_X11_coverStatus_7.2.2 rfl h
    · replace h := h.2 q
      refine R_iconst e_X11_coverStatus_6.2.2.2.2.2.2.2.2.2 ?_
      refine R_goto 135 e_X11_coverStatus_7.1 (by decide) ?_
      exact R_ireturn e_X11_coverStatus_7.2.2 rfl h
  · replace h := h.2 q
    refine R_aload_n e_X11_coverStatus_3.2.2.2.2.2.2.2.2.1 0 rfl ?_
    refine R_getA 11 7 5 e_X11_coverStatus_3.2.2.2.2.2.2.2.2.2 f_X11_43 kx_0 (fun _ _ => rfl) rx_0_7 (by decide) ?_
    refine R_aload_n e_X11_coverStatus_4.1 0 rfl ?_
    refine R_getA 11 3 1 e_X11_coverStatus_4.2.1 f_X11_22 kx_0 (fun _ _ => rfl) rx_0_3 (by decide) ?_
    refine R_iload_n e_X11_coverStatus_4.2.2.1 1 rfl ?_
    obtain ⟨q20, h⟩ := h
    refine R_aald 24 4 (adT l1) e_X11_coverStatus_4.2.2.2.1 (by decide) kxa_1 q20 (adT_at q20) (adT_n q20) ?_
    refine R_getA 10 3 (adT l1 + 1) e_X11_coverStatus_4.2.2.2.2.1 f_X11_136 (kT_self (adT_is q20)) (fun _ _ => rfl) (kT_r3 (adT_is q20)) (kT_n1 (adT_is q20)) ?_
    refine R_iload e_X11_coverStatus_4.2.2.2.2.2.1 4 rfl ?_
    obtain ⟨q21, h⟩ := h
    refine R_lald 60 e_X11_coverStatus_4.2.2.2.2.2.2.1 (kT_nums (adT_is q20)) q21 ?_
    refine R_callV (mc := 0) (ms := 0) (mc' := 0) (ms' := 0) (M' := M_X0_hasFieldNumber) (d' := 2) (as := [vL (σ (adT l1 + 1) l4)]) (st := []) 0 1 e_X11_coverStatus_4.2.2.2.2.2.2.2.1 (kCVof m_X0_hasFieldNumber l_X11_480) rfl (by decide) (kC_self isC_5) (by decide) (by decide) rfl rfl (by show (0 : Nat) ≤ 8; decide) ?_
    refine Run.mono h (fun r22 s23 h => ?_)
    refine R_eqs (st2 := [vI r22]) rfl rfl ?_
    obtain ⟨q24, h⟩ := h
    refine R_if_ne 91 e_X11_coverStatus_4.2.2.2.2.2.2.2.2.1 (by decide) q24  (fun q => ?_) (fun q => ?_)
    · replace h := h.1 q
      refine R_iinc (ls2 := [(4, vI (l4 + 1)), (0, vA G 0), (1, vI l1), (2, vI l2), (3, vI l3)]) e_X11_coverStatus_5.2.1 4 rfl (by decide) rfl ?_
      refine R_goto 61 e_X11_coverStatus_5.2.2.1 (by decide) ?_
      refine R_ls (ls2 := [(0, vA G 0), (1, vI l1), (2, vI l2), (3, vI l3), (4, vI (l4 + 1))]) [1, 2, 3, 4, 0] rfl ?_
      exact h
    · replace h := h.2 q
      refine R_iconst e_X11_coverStatus_4.2.2.2.2.2.2.2.2.2 ?_
      exact R_ireturn e_X11_coverStatus_5.1 rfl h
/-! KiteLand.putOnTape(I)V -/
theorem e_X11_putOnTape_0 : decode cX11_putOnTape 0 = .ok (.bipush 24, 2) ∧ decode cX11_putOnTape 2 = .ok (.istore_n 2, 1) ∧ decode cX11_putOnTape 3 = .ok (.iload_n 2, 1) ∧ decode cX11_putOnTape 4 = .ok (.ifCond .lt 32, 3) ∧ decode cX11_putOnTape 7 = .ok (.aload_n 0, 1) ∧ decode cX11_putOnTape 8 = .ok (.getfield 26, 3) ∧ decode cX11_putOnTape 11 = .ok (.aload_n 0, 1) ∧ decode cX11_putOnTape 12 = .ok (.getfield 30, 3) ∧ decode cX11_putOnTape 15 = .ok (.iload_n 1, 1) ∧ decode cX11_putOnTape 16 = .ok (.iload_n 2, 1) := by decide +kernel
theorem e_X11_putOnTape_1 : decode cX11_putOnTape 17 = .ok (.ishr, 1) ∧ decode cX11_putOnTape 18 = .ok (.i2b, 1) ∧ decode cX11_putOnTape 19 = .ok (.bastore, 1) ∧ decode cX11_putOnTape 20 = .ok (.aload_n 0, 1) ∧ decode cX11_putOnTape 21 = .ok (.dup, 1) ∧ decode cX11_putOnTape 22 = .ok (.getfield 30, 3) ∧ decode cX11_putOnTape 25 = .ok (.iconst 1, 1) ∧ decode cX11_putOnTape 26 = .ok (.iadd, 1) ∧ decode cX11_putOnTape 27 = .ok (.putfield 30, 3) ∧ decode cX11_putOnTape 30 = .ok (.iinc 2 (-8), 3) := by decide +kernel
theorem e_X11_putOnTape_2 : decode cX11_putOnTape 33 = .ok (.goto (-30), 3) ∧ decode cX11_putOnTape 36 = .ok (.return_, 1) := by decide +kernel
abbrev E_X11_putOnTape_3 (G : Kg) (l1 l2 : Int) (σ : Kmem) (Q : Int → Kmem → Prop) : Prop := Ex G WX M_X11_putOnTape 0 0 0 3 [(0, vA G 0), (1, vI l1), (2, vI l2)] [] σ Q
theorem S_X11_putOnTape {G : Kg} {σ : Kmem} {Q : Int → Kmem → Prop} {l1 : Int}  (h : E_X11_putOnTape_3 G l1 24 σ Q) : Run G WX M_X11_putOnTape 0 0 0 [vA G 0, vI l1] σ Q := by
  refine Run.of (by decide +kernel) (by show (2 : Nat) ≤ 3; decide) ?_
  show Ex G WX M_X11_putOnTape 0 0 0 0 [(0, vA G 0), (1, vI l1)] [] σ Q
  refine R_bipush e_X11_putOnTape_0.1 (by decide) ?_
  refine R_istore_n (ls2 := [(2, vI 24), (0, vA G 0), (1, vI l1)]) e_X11_putOnTape_0.2.1 (by decide) rfl ?_
  refine R_ls (ls2 := [(0, vA G 0), (1, vI l1), (2, vI 24)]) [1, 2, 0] rfl ?_
  exact h
theorem S_X11_putOnTape_3 {G : Kg} {σ : Kmem} {Q : Int → Kmem → Prop} {l1 l2 : Int}  (h : (rI l2) ∧ ((l2 < 0 → Q 0 σ) ∧ (0 ≤ l2 → (0 ≤ σ 0 5 ∧ σ 0 5 < 900) ∧ E_X11_putOnTape_3 G l1 (l2 + (-8)) (kup (kup σ 2 (σ 0 5) (ki2b (ki2b (kshr l1 l2)))) 0 5 (((kup σ 2 (σ 0 5) (ki2b (ki2b (kshr l1 l2)))) 0 5) + 1)) Q))) : E_X11_putOnTape_3 G l1 l2 σ Q := by
  refine R_iload_n e_X11_putOnTape_0.2.2.1 2 rfl ?_
  obtain ⟨q1, h⟩ := h
  refine R_if_lt 36 e_X11_putOnTape_0.2.2.2.1 (by decide) q1  (fun q => ?_) (fun q => ?_)
  · replace h := h.1 q
    exact R_return e_X11_putOnTape_2.2 rfl h
  · replace h := h.2 q
    refine R_aload_n e_X11_putOnTape_0.2.2.2.2.1 0 rfl ?_
    refine R_getA 11 4 2 e_X11_putOnTape_0.2.2.2.2.2.1 f_X11_26 kx_0 (fun _ _ => rfl) rx_0_4 (by decide) ?_
    refine R_aload_n e_X11_putOnTape_0.2.2.2.2.2.2.1 0 rfl ?_
    refine R_getI 11 5 5 e_X11_putOnTape_0.2.2.2.2.2.2.2.1 f_X11_30 kx_0 (fun _ _ => rfl) rfl ?_
    refine R_iload_n e_X11_putOnTape_0.2.2.2.2.2.2.2.2.1 1 rfl ?_
    refine R_iload_n e_X11_putOnTape_0.2.2.2.2.2.2.2.2.2 2 rfl ?_
    refine R_ishr e_X11_putOnTape_1.1 ?_
    refine R_i2b e_X11_putOnTape_1.2.1 ?_
    obtain ⟨q2, h⟩ := h
    refine R_bast 900 WX_ok e_X11_putOnTape_1.2.2.1 kxa_2 q2 ?_
    refine R_aload_n e_X11_putOnTape_1.2.2.2.1 0 rfl ?_
    refine R_dup e_X11_putOnTape_1.2.2.2.2.1 rfl ?_
    refine R_getI 11 5 5 e_X11_putOnTape_1.2.2.2.2.2.1 f_X11_30 kx_0 (fun _ _ => rfl) rfl ?_
    refine R_iconst e_X11_putOnTape_1.2.2.2.2.2.2.1 ?_
    refine R_iadd e_X11_putOnTape_1.2.2.2.2.2.2.2.1 ?_
    refine R_putI 11 5 5 WX_ok e_X11_putOnTape_1.2.2.2.2.2.2.2.2.1 f_X11_30 kx_0 rfl rfl rfl ?_
    refine R_iinc (ls2 := [(2, vI (l2 + (-8))), (0, vA G 0), (1, vI l1)]) e_X11_putOnTape_1.2.2.2.2.2.2.2.2.2 2 rfl (by decide) rfl ?_
    refine R_goto 3 e_X11_putOnTape_2.1 (by decide) ?_
    refine R_ls (ls2 := [(0, vA G 0), (1, vI l1), (2, vI (l2 + (-8)))]) [1, 2, 0] rfl ?_
    exact h
/-! KiteLand.lookNow()V -/
theorem e_X11_lookNow_0 : decode cX11_lookNow 0 = .ok (.aload_n 0, 1) ∧ decode cX11_lookNow 1 = .ok (.getfield 64, 3) ∧ decode cX11_lookNow 4 = .ok (.aload_n 0, 1) ∧ decode cX11_lookNow 5 = .ok (.getfield 43, 3) ∧ decode cX11_lookNow 8 = .ok (.aload_n 0, 1) ∧ decode cX11_lookNow 9 = .ok (.getfield 43, 3) ∧ decode cX11_lookNow 12 = .ok (.invokevirtual 488, 3) ∧ decode cX11_lookNow 15 = .ok (.invokevirtual 308, 3) ∧ decode cX11_lookNow 18 = .ok (.return_, 1) := by decide +kernel
theorem S_X11_lookNow {G : Kg} {σ : Kmem} {Q : Int → Kmem → Prop}  (h : Run G WX M_X0_hourOfDay 0 0 0 [vA G 5] σ (fun r1 s2 => Run G WX M_X8_look 3 0 0 [vA G 58, vA G 5, vI r1] s2 (fun r3 s4 => Q 0 s4))) : Run G WX M_X11_lookNow 4 0 0 [vA G 0] σ Q := by
  refine Run.of (by decide +kernel) (by show (1 : Nat) ≤ 1; decide) ?_
  show Ex G WX M_X11_lookNow 4 0 0 0 [(0, vA G 0)] [] σ Q
  refine R_aload_n e_X11_lookNow_0.1 0 rfl ?_
  refine R_getA 11 10 58 e_X11_lookNow_0.2.1 f_X11_64 kx_0 (fun _ _ => rfl) rx_0_10 (by decide) ?_
  refine R_aload_n e_X11_lookNow_0.2.2.1 0 rfl ?_
  refine R_getA 11 7 5 e_X11_lookNow_0.2.2.2.1 f_X11_43 kx_0 (fun _ _ => rfl) rx_0_7 (by decide) ?_
  refine R_aload_n e_X11_lookNow_0.2.2.2.2.1 0 rfl ?_
  refine R_getA 11 7 5 e_X11_lookNow_0.2.2.2.2.2.1 f_X11_43 kx_0 (fun _ _ => rfl) rx_0_7 (by decide) ?_
  refine R_callV (mc := 0) (ms := 0) (mc' := 0) (ms' := 0) (M' := M_X0_hourOfDay) (d' := 0) (as := []) (st := [vA G 5, vA G 58]) 0 0 e_X11_lookNow_0.2.2.2.2.2.2.1 (kCVof m_X0_hourOfDay l_X11_488) rfl (by decide) (kC_self isC_5) (by decide) (by decide) rfl rfl (by show (2 : Nat) ≤ 8; decide) ?_
  refine Run.mono h (fun r1 s2 h => ?_)
  refine R_eqs (st2 := [vI r1, vA G 5, vA G 58]) rfl rfl ?_
  refine R_callV (mc := 0) (ms := 0) (mc' := 0) (ms' := 0) (M' := M_X8_look) (d' := 3) (as := [vA G 5, vI r1]) (st := []) 8 2 e_X11_lookNow_0.2.2.2.2.2.2.2.1 (kCVof m_X8_look l_X11_308) rfl (by decide) kx_58 (by decide) (by decide) rfl rfl (by show (0 : Nat) ≤ 8; decide) ?_
  refine Run.mono h (fun r3 s4 h => ?_)
  refine R_eqs (st2 := []) rfl rfl ?_
  exact R_return e_X11_lookNow_0.2.2.2.2.2.2.2.2 rfl h
/-! KiteLand.goAhead(I)V -/
theorem e_X11_goAhead_0 : decode cX11_goAhead 0 = .ok (.aload_n 0, 1) ∧ decode cX11_goAhead 1 = .ok (.getfield 47, 3) ∧ decode cX11_goAhead 4 = .ok (.aload_n 0, 1) ∧ decode cX11_goAhead 5 = .ok (.getfield 43, 3) ∧ decode cX11_goAhead 8 = .ok (.invokevirtual 167, 3) ∧ decode cX11_goAhead 11 = .ok (.aload_n 0, 1) ∧ decode cX11_goAhead 12 = .ok (.getfield 47, 3) ∧ decode cX11_goAhead 15 = .ok (.aload_n 0, 1) ∧ decode cX11_goAhead 16 = .ok (.getfield 64, 3) ∧ decode cX11_goAhead 19 = .ok (.iload_n 1, 1) := by decide +kernel
theorem e_X11_goAhead_1 : decode cX11_goAhead 20 = .ok (.invokevirtual 349, 3) ∧ decode cX11_goAhead 23 = .ok (.pop, 1) ∧ decode cX11_goAhead 24 = .ok (.return_, 1) := by decide +kernel
theorem S_X11_goAhead {G : Kg} {σ : Kmem} {Q : Int → Kmem → Prop} {l1 : Int}  (h : Run G WX M_X0_copy 1 0 0 [vA G 31, vA G 5] σ (fun r1 s2 => Run G WX M_X0_goBy 4 0 0 [vA G 31, vA G 58, vI l1] s2 (fun r3 s4 => Q 0 s4))) : Run G WX M_X11_goAhead 5 0 0 [vA G 0, vI l1] σ Q := by
  refine Run.of (by decide +kernel) (by show (2 : Nat) ≤ 2; decide) ?_
  show Ex G WX M_X11_goAhead 5 0 0 0 [(0, vA G 0), (1, vI l1)] [] σ Q
  refine R_aload_n e_X11_goAhead_0.1 0 rfl ?_
  refine R_getA 11 8 31 e_X11_goAhead_0.2.1 f_X11_47 kx_0 (fun _ _ => rfl) rx_0_8 (by decide) ?_
  refine R_aload_n e_X11_goAhead_0.2.2.1 0 rfl ?_
  refine R_getA 11 7 5 e_X11_goAhead_0.2.2.2.1 f_X11_43 kx_0 (fun _ _ => rfl) rx_0_7 (by decide) ?_
  refine R_callV (mc := 0) (ms := 0) (mc' := 0) (ms' := 0) (M' := M_X0_copy) (d' := 1) (as := [vA G 5]) (st := []) 0 1 e_X11_goAhead_0.2.2.2.2.1 (kCVof m_X0_copy l_X11_167) rfl (by decide) (kC_self isC_31) (by decide) (by decide) rfl rfl (by show (0 : Nat) ≤ 8; decide) ?_
  refine Run.mono h (fun r1 s2 h => ?_)
  refine R_eqs (st2 := []) rfl rfl ?_
  refine R_aload_n e_X11_goAhead_0.2.2.2.2.2.1 0 rfl ?_
  refine R_getA 11 8 31 e_X11_goAhead_0.2.2.2.2.2.2.1 f_X11_47 kx_0 (fun _ _ => rfl) rx_0_8 (by decide) ?_
  refine R_aload_n e_X11_goAhead_0.2.2.2.2.2.2.2.1 0 rfl ?_
  refine R_getA 11 10 58 e_X11_goAhead_0.2.2.2.2.2.2.2.2.1 f_X11_64 kx_0 (fun _ _ => rfl) rx_0_10 (by decide) ?_
  refine R_iload_n e_X11_goAhead_0.2.2.2.2.2.2.2.2.2 1 rfl ?_
  refine R_callV (mc := 0) (ms := 0) (mc' := 0) (ms' := 0) (M' := M_X0_goBy) (d' := 4) (as := [vA G 58, vI l1]) (st := []) 0 2 e_X11_goAhead_1.1 (kCVof m_X0_goBy l_X11_349) rfl (by decide) (kC_self isC_31) (by decide) (by decide) rfl rfl (by show (0 : Nat) ≤ 8; decide) ?_
  refine Run.mono h (fun r3 s4 h => ?_)
  refine R_eqs (st2 := [vI r3]) rfl rfl ?_
  refine R_pop e_X11_goAhead_1.2.1 rfl ?_
  exact R_return e_X11_goAhead_1.2.2 rfl h
