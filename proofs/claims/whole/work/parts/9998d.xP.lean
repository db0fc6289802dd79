/-! KiteLand.suspects(II)I -/
theorem e_X11_suspects_0 : decode cX11_suspects 0 = .ok (.aload_n 0, 1) ∧ decode cX11_suspects 1 = .ok (.getfield 43, 3) ∧ decode cX11_suspects 4 = .ok (.iload_n 1, 1) ∧ decode cX11_suspects 5 = .ok (.invokevirtual 421, 3) ∧ decode cX11_suspects 8 = .ok (.ifCond .eq 11, 3) ∧ decode cX11_suspects 11 = .ok (.aload_n 0, 1) ∧ decode cX11_suspects 12 = .ok (.iload_n 2, 1) ∧ decode cX11_suspects 13 = .ok (.invokevirtual 109, 3) ∧ decode cX11_suspects 16 = .ok (.ifCond .ne 9, 3) ∧ decode cX11_suspects 19 = .ok (.aload_n 0, 1) := by decide +kernel
theorem e_X11_suspects_1 : decode cX11_suspects 20 = .ok (.iconst 1, 1) ∧ decode cX11_suspects 21 = .ok (.invokevirtual 132, 3) ∧ decode cX11_suspects 24 = .ok (.ireturn, 1) ∧ decode cX11_suspects 25 = .ok (.aload_n 0, 1) ∧ decode cX11_suspects 26 = .ok (.iload_n 2, 1) ∧ decode cX11_suspects 27 = .ok (.invokevirtual 424, 3) ∧ decode cX11_suspects 30 = .ok (.istore_n 3, 1) ∧ decode cX11_suspects 31 = .ok (.iload_n 3, 1) ∧ decode cX11_suspects 32 = .ok (.ifCond .eq 9, 3) ∧ decode cX11_suspects 35 = .ok (.aload_n 0, 1) := by decide +kernel
theorem e_X11_suspects_2 : decode cX11_suspects 36 = .ok (.iload_n 3, 1) ∧ decode cX11_suspects 37 = .ok (.invokevirtual 132, 3) ∧ decode cX11_suspects 40 = .ok (.ireturn, 1) ∧ decode cX11_suspects 41 = .ok (.aload_n 0, 1) ∧ decode cX11_suspects 42 = .ok (.getfield 47, 3) ∧ decode cX11_suspects 45 = .ok (.aload_n 0, 1) ∧ decode cX11_suspects 46 = .ok (.getfield 43, 3) ∧ decode cX11_suspects 49 = .ok (.invokevirtual 167, 3) ∧ decode cX11_suspects 52 = .ok (.aload_n 0, 1) ∧ decode cX11_suspects 53 = .ok (.getfield 93, 3) := by decide +kernel
theorem e_X11_suspects_3 : decode cX11_suspects 56 = .ok (.iload_n 1, 1) ∧ decode cX11_suspects 57 = .ok (.invokevirtual 427, 3) ∧ decode cX11_suspects 60 = .ok (.iconst 0, 1) ∧ decode cX11_suspects 61 = .ok (.istore 4, 2) ∧ decode cX11_suspects 63 = .ok (.iconst 0, 1) ∧ decode cX11_suspects 64 = .ok (.istore 5, 2) ∧ decode cX11_suspects 66 = .ok (.iload 5, 2) ∧ decode cX11_suspects 68 = .ok (.aload_n 0, 1) ∧ decode cX11_suspects 69 = .ok (.getfield 43, 3) ∧ decode cX11_suspects 72 = .ok (.getfield 173, 3) := by decide +kernel
theorem e_X11_suspects_4 : decode cX11_suspects 75 = .ok (.if_icmp .ge 39, 3) ∧ decode cX11_suspects 78 = .ok (.aload_n 0, 1) ∧ decode cX11_suspects 79 = .ok (.getfield 93, 3) ∧ decode cX11_suspects 82 = .ok (.iload 5, 2) ∧ decode cX11_suspects 84 = .ok (.aload_n 0, 1) ∧ decode cX11_suspects 85 = .ok (.getfield 22, 3) ∧ decode cX11_suspects 88 = .ok (.iload_n 2, 1) ∧ decode cX11_suspects 89 = .ok (.aaload, 1) ∧ decode cX11_suspects 90 = .ok (.getfield 136, 3) ∧ decode cX11_suspects 93 = .ok (.invokevirtual 434, 3) := by decide +kernel
theorem e_X11_suspects_5 : decode cX11_suspects 96 = .ok (.ifCond .eq 12, 3) ∧ decode cX11_suspects 99 = .ok (.iload 4, 2) ∧ decode cX11_suspects 101 = .ok (.iconst 1, 1) ∧ decode cX11_suspects 102 = .ok (.iload 5, 2) ∧ decode cX11_suspects 104 = .ok (.ishl, 1) ∧ decode cX11_suspects 105 = .ok (.ior, 1) ∧ decode cX11_suspects 106 = .ok (.istore 4, 2) ∧ decode cX11_suspects 108 = .ok (.iinc 5 1, 3) ∧ decode cX11_suspects 111 = .ok (.goto (-45), 3) ∧ decode cX11_suspects 114 = .ok (.aload_n 0, 1) := by decide +kernel
theorem e_X11_suspects_6 : decode cX11_suspects 115 = .ok (.iload 4, 2) ∧ decode cX11_suspects 117 = .ok (.invokevirtual 176, 3) ∧ decode cX11_suspects 120 = .ok (.ireturn, 1) := by decide +kernel
abbrev E_X11_suspects_66 (G : Kg) (l2 l4 l5 : Int) (σ : Kmem) (Q : Int → Kmem → Prop) : Prop := Ex G WX M_X11_suspects 5 0 0 66 [(0, vA G 0), (2, vI l2), (4, vI l4), (5, vI l5)] [] σ Q
theorem S_X11_suspects {G : Kg} {σ : Kmem} {Q : Int → Kmem → Prop} {l1 l2 : Int} {v : Int → Int}  (h : (wf v ∧ kco σ 5 v ∧ rI (l1)) ∧ ((¬ ((0 : Int) ≤ l1 ∧ (l1 : Int) < v 1) → Q (-1) (kup σ 0 0 1)) ∧ (((0 : Int) ≤ l1 ∧ (l1 : Int) < v 1) → (rI (l2)) ∧ ((((0 : Int) ≤ l2 ∧ (l2 : Int) < 4) → Run G WX M_X11_stripTrayStatus 0 0 0 [vA G 0, vI l2] σ (fun r9 s10 => (rI r9) ∧ ((r9 = 0 → Run G WX M_X0_copy 1 0 0 [vA G 31, vA G 5] s10 (fun r12 s13 => Run G WX M_X5_countStrips 4 0 0 [vA G 82, vI l1] s13 (fun r14 s15 => E_X11_suspects_66 G l2 0 0 s15 Q))) ∧ (r9 ≠ 0 → Q (-1) (kup s10 0 0 r9))))) ∧ (¬ ((0 : Int) ≤ l2 ∧ (l2 : Int) < 4) → Q (-1) (kup σ 0 0 1)))))) : Run G WX M_X11_suspects 5 0 0 [vA G 0, vI l1, vI l2] σ Q := by
  refine Run.of (by decide +kernel) (by show (3 : Nat) ≤ 6; decide) ?_
  show Ex G WX M_X11_suspects 5 0 0 0 [(0, vA G 0), (1, vI l1), (2, vI l2)] [] σ Q
  refine R_aload_n e_X11_suspects_0.1 0 rfl ?_
  refine R_getA 11 7 5 e_X11_suspects_0.2.1 f_X11_43 kx_0 (fun _ _ => rfl) rx_0_7 (by decide) ?_
  refine R_iload_n e_X11_suspects_0.2.2.1 1 rfl ?_
  obtain ⟨q3, h⟩ := h
  refine R_callV (mc := 0) (ms := 0) (mc' := 0) (ms' := 0) (M' := M_X0_hasRow) (d' := 0) (as := [vI l1]) (st := []) 0 1 e_X11_suspects_0.2.2.2.1 (kCVof m_X0_hasRow l_X11_421) rfl (by decide) (kC_self isC_5) (by decide) (by decide) rfl rfl (by show (0 : Nat) ≤ 8; decide) ?_
  refine Run.mono (P_X0_hasRow isC_5 q3) (fun rr ss e => ?_)
  obtain ⟨e1, e2⟩ := e
  refine R_eqs (st2 := [vI (kb ((0 : Int) ≤ l1 ∧ (l1 : Int) < v 1))]) (σ2 := σ) (by rw [e1]; rfl) e2 ?_
  refine R_if_eq 19 e_X11_suspects_0.2.2.2.2.1 (by decide) (kb_r _) (fun q => ?_) (fun q => ?_)
  · replace h := h.1 (kb_f q)
    refine R_aload_n e_X11_suspects_0.2.2.2.2.2.2.2.2.2 0 rfl ?_
    refine R_iconst e_X11_suspects_1.1 ?_
    refine R_callV (mc := 0) (ms := 0) (mc' := 0) (ms' := 0) (M' := M_X11_deny) (d' := 0) (as := [vI 1]) (st := []) 11 1 e_X11_suspects_1.2.1 (kCVof m_X11_deny l_X11_132) rfl (by decide) kx_0 (by decide) (by decide) rfl rfl (by show (0 : Nat) ≤ 8; decide) ?_
    refine S_X11_deny ?_
    refine R_eqs (st2 := [vI (-1)]) (σ2 := (kup σ 0 0 1)) rfl rfl ?_
    exact R_ireturn e_X11_suspects_1.2.2.1 rfl h
  · replace h := h.2 (kb_t q)
    refine R_aload_n e_X11_suspects_0.2.2.2.2.2.1 0 rfl ?_
    refine R_iload_n e_X11_suspects_0.2.2.2.2.2.2.1 2 rfl ?_
    obtain ⟨q8, h⟩ := h
    refine R_callV (mc := 0) (ms := 0) (mc' := 0) (ms' := 0) (M' := M_X11_isTray) (d' := 0) (as := [vI l2]) (st := []) 11 1 e_X11_suspects_0.2.2.2.2.2.2.2.1 (kCVof m_X11_isTray l_X11_109) rfl (by decide) kx_0 (by decide) (by decide) rfl rfl (by show (0 : Nat) ≤ 8; decide) ?_
    refine Run.mono (P_X11_isTray q8) (fun rr ss e => ?_)
    obtain ⟨e1, e2⟩ := e
    refine R_eqs (st2 := [vI (kb ((0 : Int) ≤ l2 ∧ (l2 : Int) < 4))]) (σ2 := σ) (by rw [e1]; rfl) e2 ?_
    refine R_if_ne 25 e_X11_suspects_0.2.2.2.2.2.2.2.2.1 (by decide) (kb_r _) (fun q => ?_) (fun q => ?_)
    · replace h := h.1 (kb_t q)
      refine R_aload_n e_X11_suspects_1.2.2.2.1 0 rfl ?_
      refine R_iload_n e_X11_suspects_1.2.2.2.2.1 2 rfl ?_
      refine R_callV (mc := 0) (ms := 0) (mc' := 0) (ms' := 0) (M' := M_X11_stripTrayStatus) (d' := 0) (as := [vI l2]) (st := []) 11 1 e_X11_suspects_1.2.2.2.2.2.1 (kCVof m_X11_stripTrayStatus l_X11_424) rfl (by decide) kx_0 (by decide) (by decide) rfl rfl (by show (0 : Nat) ≤ 8; decide) ?_
      refine Run.mono h (fun r9 s10 h => ?_)
      refine R_eqs (st2 := [vI r9]) rfl rfl ?_
      refine R_istore_n (ls2 := [(3, vI r9), (0, vA G 0), (1, vI l1), (2, vI l2)]) e_X11_suspects_1.2.2.2.2.2.2.1 (by decide) rfl ?_
      refine R_iload_n e_X11_suspects_1.2.2.2.2.2.2.2.1 0 rfl ?_
      obtain ⟨q11, h⟩ := h
      refine R_if_eq 41 e_X11_suspects_1.2.2.2.2.2.2.2.2.1 (by decide) q11  (fun q => ?_) (fun q => ?_)
      · replace h := h.1 q
        refine R_aload_n e_X11_suspects_2.2.2.2.1 1 rfl ?_
        refine R_getA 11 8 31 e_X11_suspects_2.2.2.2.2.1 f_X11_47 kx_0 (fun _ _ => rfl) rx_0_8 (by decide) ?_
        refine R_aload_n e_X11_suspects_2.2.2.2.2.2.1 1 rfl ?_
        refine R_getA 11 7 5 e_X11_suspects_2.2.2.2.2.2.2.1 f_X11_43 kx_0 (fun _ _ => rfl) rx_0_7 (by decide) ?_
        refine R_callV (mc := 0) (ms := 0) (mc' := 0) (ms' := 0) (M' := M_X0_copy) (d' := 1) (as := [vA G 5]) (st := []) 0 1 e_X11_suspects_2.2.2.2.2.2.2.2.1 (kCVof m_X0_copy l_X11_167) rfl (by decide) (kC_self isC_31) (by decide) (by decide) rfl rfl (by show (0 : Nat) ≤ 8; decide) ?_
        refine Run.mono h (fun r12 s13 h => ?_)
        refine R_eqs (st2 := []) rfl rfl ?_
        refine R_aload_n e_X11_suspects_2.2.2.2.2.2.2.2.2.1 1 rfl ?_
        refine R_getA 11 15 82 e_X11_suspects_2.2.2.2.2.2.2.2.2.2 f_X11_93 kx_0 (fun _ _ => rfl) rx_0_15 (by decide) ?_
        refine R_iload_n e_X11_suspects_3.1 2 rfl ?_
        refine R_callV (mc := 0) (ms := 0) (mc' := 0) (ms' := 0) (M' := M_X5_countStrips) (d' := 4) (as := [vI l1]) (st := []) 5 1 e_X11_suspects_3.2.1 (kCVof m_X5_countStrips l_X11_427) rfl (by decide) kx_82 (by decide) (by decide) rfl rfl (by show (0 : Nat) ≤ 8; decide) ?_
        refine Run.mono h (fun r14 s15 h => ?_)
        refine R_eqs (st2 := []) rfl rfl ?_
        refine R_iconst e_X11_suspects_3.2.2.1 ?_
        refine R_istore (ls2 := [(4, vI 0), (3, vI r9), (0, vA G 0), (1, vI l1), (2, vI l2)]) e_X11_suspects_3.2.2.2.1 (by decide) rfl ?_
        refine R_iconst e_X11_suspects_3.2.2.2.2.1 ?_
        refine R_istore (ls2 := [(5, vI 0), (4, vI 0), (3, vI r9), (0, vA G 0), (1, vI l1), (2, vI l2)]) e_X11_suspects_3.2.2.2.2.2.1 (by decide) rfl ?_
        refine R_ls (ls2 := [(0, vA G 0), (2, vI l2), (4, vI 0), (5, vI 0)]) [3, 5, 1, 0] rfl ?_
        exact h
      · replace h := h.2 q
        refine R_aload_n e_X11_suspects_1.2.2.2.2.2.2.2.2.2 1 rfl ?_
        refine R_iload_n e_X11_suspects_2.1 0 rfl ?_
        refine R_callV (mc := 0) (ms := 0) (mc' := 0) (ms' := 0) (M' := M_X11_deny) (d' := 0) (as := [vI r9]) (st := []) 11 1 e_X11_suspects_2.2.1 (kCVof m_X11_deny l_X11_132) rfl (by decide) kx_0 (by decide) (by decide) rfl rfl (by show (0 : Nat) ≤ 8; decide) ?_
        refine S_X11_deny ?_
        refine R_eqs (st2 := [vI (-1)]) (σ2 := (kup s10 0 0 r9)) rfl rfl ?_
        exact R_ireturn e_X11_suspects_2.2.2.1 rfl h
    · replace h := h.2 (kb_f q)
      refine R_aload_n e_X11_suspects_0.2.2.2.2.2.2.2.2.2 0 rfl ?_
      refine R_iconst e_X11_suspects_1.1 ?_
      refine R_callV (mc := 0) (ms := 0) (mc' := 0) (ms' := 0) (M' := M_X11_deny) (d' := 0) (as := [vI 1]) (st := []) 11 1 e_X11_suspects_1.2.1 (kCVof m_X11_deny l_X11_132) rfl (by decide) kx_0 (by decide) (by decide) rfl rfl (by show (0 : Nat) ≤ 8; decide) ?_
      refine S_X11_deny ?_
      refine R_eqs (st2 := [vI (-1)]) (σ2 := (kup σ 0 0 1)) rfl rfl ?_
      exact R_ireturn e_X11_suspects_1.2.2.1 rfl h
theorem S_X11_suspects_66 {G : Kg} {σ : Kmem} {Q : Int → Kmem → Prop} {l1 l2 l4 l5 : Int}  (h : (rI l5) ∧ (rI (σ 5 5)) ∧ ((σ 5 5 ≤ l5 → Q l4 (kup σ 0 0 0)) ∧ (l5 < σ 5 5 → (0 ≤ l2 ∧ l2 < 4) ∧ Run G WX M_X5_isStrip 0 0 0 [vA G 82, vI l5, vA G (adT l2 + 1)] σ (fun r25 s26 => (rI r25) ∧ ((r25 = 0 → E_X11_suspects_66 G l2 l4 (l5 + 1) s26 Q) ∧ (r25 ≠ 0 → E_X11_suspects_66 G l2 (kor l4 (kshl 1 l5)) (l5 + 1) s26 Q)))))) : E_X11_suspects_66 G l2 l4 l5 σ Q := by
  refine R_iload e_X11_suspects_3.2.2.2.2.2.2.1 3 rfl ?_
  refine R_aload_n e_X11_suspects_3.2.2.2.2.2.2.2.1 0 rfl ?_
  refine R_getA 11 7 5 e_X11_suspects_3.2.2.2.2.2.2.2.2.1 f_X11_43 kx_0 (fun _ _ => rfl) rx_0_7 (by decide) ?_
  refine R_getI 0 5 5 e_X11_suspects_3.2.2.2.2.2.2.2.2.2 f_X11_173 (kC_self isC_5) (fun _ _ => rfl) rfl ?_
  obtain ⟨q20, h⟩ := h
  obtain ⟨q21, h⟩ := h
  refine R_icmp_ge 114 e_X11_suspects_4.1 (by decide) q20 q21 (fun q => ?_) (fun q => ?_)
  · replace h := h.1 q
    refine R_aload_n e_X11_suspects_5.2.2.2.2.2.2.2.2.2 0 rfl ?_
    refine R_iload e_X11_suspects_6.1 2 rfl ?_
    refine R_callV (mc := 0) (ms := 0) (mc' := 0) (ms' := 0) (M' := M_X11_give) (d' := 0) (as := [vI l4]) (st := []) 11 1 e_X11_suspects_6.2.1 (kCVof m_X11_give l_X11_176) rfl (by decide) kx_0 (by decide) (by decide) rfl rfl (by show (0 : Nat) ≤ 8; decide) ?_
    refine S_X11_give ?_
    refine R_eqs (st2 := [vI l4]) (σ2 := (kup σ 0 0 0)) rfl rfl ?_
    exact R_ireturn e_X11_suspects_6.2.2 rfl h
  · replace h := h.2 q
    refine R_aload_n e_X11_suspects_4.2.1 0 rfl ?_
    refine R_getA 11 15 82 e_X11_suspects_4.2.2.1 f_X11_93 kx_0 (fun _ _ => rfl) rx_0_15 (by decide) ?_
    refine R_iload e_X11_suspects_4.2.2.2.1 3 rfl ?_
    refine R_aload_n e_X11_suspects_4.2.2.2.2.1 0 rfl ?_
    refine R_getA 11 3 1 e_X11_suspects_4.2.2.2.2.2.1 f_X11_22 kx_0 (fun _ _ => rfl) rx_0_3 (by decide) ?_
    refine R_iload_n e_X11_suspects_4.2.2.2.2.2.2.1 1 rfl ?_
    obtain ⟨q24, h⟩ := h
    refine R_aald 24 4 (adT l2) e_X11_suspects_4.2.2.2.2.2.2.2.1 (by decide) kxa_1 q24 (adT_at q24) (adT_n q24) ?_
    refine R_getA 10 3 (adT l2 + 1) e_X11_suspects_4.2.2.2.2.2.2.2.2.1 f_X11_136 (kT_self (adT_is q24)) (fun _ _ => rfl) (kT_r3 (adT_is q24)) (kT_n1 (adT_is q24)) ?_
    refine R_callV (mc := 0) (ms := 0) (mc' := 0) (ms' := 0) (M' := M_X5_isStrip) (d' := 0) (as := [vI l5, vA G (adT l2 + 1)]) (st := []) 5 2 e_X11_suspects_4.2.2.2.2.2.2.2.2.2 (kCVof m_X5_isStrip l_X11_434) rfl (by decide) kx_82 (by decide) (by decide) rfl rfl (by show (0 : Nat) ≤ 8; decide) ?_
    refine Run.mono h (fun r25 s26 h => ?_)
    refine R_eqs (st2 := [vI r25]) rfl rfl ?_
    obtain ⟨q27, h⟩ := h
    refine R_if_eq 108 e_X11_suspects_5.1 (by decide) q27  (fun q => ?_) (fun q => ?_)
    · replace h := h.1 q
      refine R_iinc (ls2 := [(5, vI (l5 + 1)), (0, vA G 0), (2, vI l2), (4, vI l4)]) e_X11_suspects_5.2.2.2.2.2.2.2.1 3 rfl (by decide) rfl ?_
      refine R_goto 66 e_X11_suspects_5.2.2.2.2.2.2.2.2.1 (by decide) ?_
      refine R_ls (ls2 := [(0, vA G 0), (2, vI l2), (4, vI l4), (5, vI (l5 + 1))]) [1, 2, 3, 0] rfl ?_
      exact h
    · replace h := h.2 q
      refine R_iload e_X11_suspects_5.2.1 2 rfl ?_
      refine R_iconst e_X11_suspects_5.2.2.1 ?_
      refine R_iload e_X11_suspects_5.2.2.2.1 3 rfl ?_
      refine R_ishl e_X11_suspects_5.2.2.2.2.1 ?_
      refine R_ior e_X11_suspects_5.2.2.2.2.2.1 ?_
      refine R_istore (ls2 := [(4, vI (kor l4 (kshl 1 l5))), (0, vA G 0), (2, vI l2), (5, vI l5)]) e_X11_suspects_5.2.2.2.2.2.2.1 (by decide) rfl ?_
      refine R_iinc (ls2 := [(5, vI (l5 + 1)), (4, vI (kor l4 (kshl 1 l5))), (0, vA G 0), (2, vI l2)]) e_X11_suspects_5.2.2.2.2.2.2.2.1 3 rfl (by decide) rfl ?_
      refine R_goto 66 e_X11_suspects_5.2.2.2.2.2.2.2.2.1 (by decide) ?_
      refine R_ls (ls2 := [(0, vA G 0), (2, vI l2), (4, vI (kor l4 (kshl 1 l5))), (5, vI (l5 + 1))]) [2, 3, 1, 0] rfl ?_
      exact h
/-! KiteLand.telling()I -/
theorem e_X11_telling_0 : decode cX11_telling 0 = .ok (.aload_n 0, 1) ∧ decode cX11_telling 1 = .ok (.getfield 43, 3) ∧ decode cX11_telling 4 = .ok (.invokevirtual 346, 3) ∧ decode cX11_telling 7 = .ok (.ifCond .ne 10, 3) ∧ decode cX11_telling 10 = .ok (.aload_n 0, 1) ∧ decode cX11_telling 11 = .ok (.bipush 6, 2) ∧ decode cX11_telling 13 = .ok (.invokevirtual 132, 3) ∧ decode cX11_telling 16 = .ok (.ireturn, 1) ∧ decode cX11_telling 17 = .ok (.aload_n 0, 1) ∧ decode cX11_telling 18 = .ok (.getfield 47, 3) := by decide +kernel
theorem e_X11_telling_1 : decode cX11_telling 21 = .ok (.aload_n 0, 1) ∧ decode cX11_telling 22 = .ok (.getfield 43, 3) ∧ decode cX11_telling 25 = .ok (.invokevirtual 167, 3) ∧ decode cX11_telling 28 = .ok (.iconst 0, 1) ∧ decode cX11_telling 29 = .ok (.istore_n 1, 1) ∧ decode cX11_telling 30 = .ok (.iconst (-1), 1) ∧ decode cX11_telling 31 = .ok (.istore_n 2, 1) ∧ decode cX11_telling 32 = .ok (.iconst 0, 1) ∧ decode cX11_telling 33 = .ok (.istore_n 3, 1) ∧ decode cX11_telling 34 = .ok (.iload_n 3, 1) := by decide +kernel
theorem e_X11_telling_2 : decode cX11_telling 35 = .ok (.aload_n 0, 1) ∧ decode cX11_telling 36 = .ok (.getfield 43, 3) ∧ decode cX11_telling 39 = .ok (.getfield 197, 3) ∧ decode cX11_telling 42 = .ok (.if_icmp .ge 30, 3) ∧ decode cX11_telling 45 = .ok (.aload_n 0, 1) ∧ decode cX11_telling 46 = .ok (.getfield 93, 3) ∧ decode cX11_telling 49 = .ok (.iload_n 3, 1) ∧ decode cX11_telling 50 = .ok (.invokevirtual 438, 3) ∧ decode cX11_telling 53 = .ok (.istore 4, 2) ∧ decode cX11_telling 55 = .ok (.iload 4, 2) := by decide +kernel
theorem e_X11_telling_3 : decode cX11_telling 57 = .ok (.iload_n 2, 1) ∧ decode cX11_telling 58 = .ok (.if_icmp .le 8, 3) ∧ decode cX11_telling 61 = .ok (.iload 4, 2) ∧ decode cX11_telling 63 = .ok (.istore_n 2, 1) ∧ decode cX11_telling 64 = .ok (.iload_n 3, 1) ∧ decode cX11_telling 65 = .ok (.istore_n 1, 1) ∧ decode cX11_telling 66 = .ok (.iinc 3 1, 3) ∧ decode cX11_telling 69 = .ok (.goto (-35), 3) ∧ decode cX11_telling 72 = .ok (.aload_n 0, 1) ∧ decode cX11_telling 73 = .ok (.iload_n 1, 1) := by decide +kernel
theorem e_X11_telling_4 : decode cX11_telling 74 = .ok (.invokevirtual 176, 3) ∧ decode cX11_telling 77 = .ok (.ireturn, 1) := by decide +kernel
abbrev E_X11_telling_34 (G : Kg) (l1 l2 l3 : Int) (σ : Kmem) (Q : Int → Kmem → Prop) : Prop := Ex G WX M_X11_telling 6 0 0 34 [(0, vA G 0), (1, vI l1), (2, vI l2), (3, vI l3)] [] σ Q
theorem S_X11_telling {G : Kg} {σ : Kmem} {Q : Int → Kmem → Prop} {v : Int → Int}  (h : (wf v ∧ kco σ 5 v) ∧ ((((0 : Int) < v 0) → Run G WX M_X0_copy 1 0 0 [vA G 31, vA G 5] σ (fun r4 s5 => E_X11_telling_34 G 0 (-1) 0 s5 Q)) ∧ (¬ ((0 : Int) < v 0) → Q (-1) (kup σ 0 0 6)))) : Run G WX M_X11_telling 6 0 0 [vA G 0] σ Q := by
  refine Run.of (by decide +kernel) (by show (1 : Nat) ≤ 5; decide) ?_
  show Ex G WX M_X11_telling 6 0 0 0 [(0, vA G 0)] [] σ Q
  refine R_aload_n e_X11_telling_0.1 0 rfl ?_
  refine R_getA 11 7 5 e_X11_telling_0.2.1 f_X11_43 kx_0 (fun _ _ => rfl) rx_0_7 (by decide) ?_
  obtain ⟨q3, h⟩ := h
  refine R_callV (mc := 0) (ms := 0) (mc' := 0) (ms' := 0) (M' := M_X0_hasLand) (d' := 0) (as := []) (st := []) 0 0 e_X11_telling_0.2.2.1 (kCVof m_X0_hasLand l_X11_346) rfl (by decide) (kC_self isC_5) (by decide) (by decide) rfl rfl (by show (0 : Nat) ≤ 8; decide) ?_
  refine Run.mono (P_X0_hasLand isC_5 q3) (fun rr ss e => ?_)
  obtain ⟨e1, e2⟩ := e
  refine R_eqs (st2 := [vI (kb ((0 : Int) < v 0))]) (σ2 := σ) (by rw [e1]; rfl) e2 ?_
  refine R_if_ne 17 e_X11_telling_0.2.2.2.1 (by decide) (kb_r _) (fun q => ?_) (fun q => ?_)
  · replace h := h.1 (kb_t q)
    refine R_aload_n e_X11_telling_0.2.2.2.2.2.2.2.2.1 0 rfl ?_
    refine R_getA 11 8 31 e_X11_telling_0.2.2.2.2.2.2.2.2.2 f_X11_47 kx_0 (fun _ _ => rfl) rx_0_8 (by decide) ?_
    refine R_aload_n e_X11_telling_1.1 0 rfl ?_
    refine R_getA 11 7 5 e_X11_telling_1.2.1 f_X11_43 kx_0 (fun _ _ => rfl) rx_0_7 (by decide) ?_
    refine R_callV (mc := 0) (ms := 0) (mc' := 0) (ms' := 0) (M' := M_X0_copy) (d' := 1) (as := [vA G 5]) (st := []) 0 1 e_X11_telling_1.2.2.1 (kCVof m_X0_copy l_X11_167) rfl (by decide) (kC_self isC_31) (by decide) (by decide) rfl rfl (by show (0 : Nat) ≤ 8; decide) ?_
    refine Run.mono h (fun r4 s5 h => ?_)
    refine R_eqs (st2 := []) rfl rfl ?_
    refine R_iconst e_X11_telling_1.2.2.2.1 ?_
    refine R_istore_n (ls2 := [(1, vI 0), (0, vA G 0)]) e_X11_telling_1.2.2.2.2.1 (by decide) rfl ?_
    refine R_iconst e_X11_telling_1.2.2.2.2.2.1 ?_
    refine R_istore_n (ls2 := [(2, vI (-1)), (1, vI 0), (0, vA G 0)]) e_X11_telling_1.2.2.2.2.2.2.1 (by decide) rfl ?_
    refine R_iconst e_X11_telling_1.2.2.2.2.2.2.2.1 ?_
    refine R_istore_n (ls2 := [(3, vI 0), (2, vI (-1)), (1, vI 0), (0, vA G 0)]) e_X11_telling_1.2.2.2.2.2.2.2.2.1 (by decide) rfl ?_
    refine R_ls (ls2 := [(0, vA G 0), (1, vI 0), (2, vI (-1)), (3, vI 0)]) [3, 2, 1, 0] rfl ?_
    exact h
  · replace h := h.2 (kb_f q)
    refine R_aload_n e_X11_telling_0.2.2.2.2.1 0 rfl ?_
    refine R_bipush e_X11_telling_0.2.2.2.2.2.1 (by decide) ?_
    refine R_callV (mc := 0) (ms := 0) (mc' := 0) (ms' := 0) (M' := M_X11_deny) (d' := 0) (as := [vI 6]) (st := []) 11 1 e_X11_telling_0.2.2.2.2.2.2.1 (kCVof m_X11_deny l_X11_132) rfl (by decide) kx_0 (by decide) (by decide) rfl rfl (by show (0 : Nat) ≤ 8; decide) ?_
    refine S_X11_deny ?_
    refine R_eqs (st2 := [vI (-1)]) (σ2 := (kup σ 0 0 6)) rfl rfl ?_
    exact R_ireturn e_X11_telling_0.2.2.2.2.2.2.2.1 rfl h
theorem S_X11_telling_34 {G : Kg} {σ : Kmem} {Q : Int → Kmem → Prop} {l1 l2 l3 : Int}  (h : (rI l3) ∧ (rI (σ 5 1)) ∧ ((σ 5 1 ≤ l3 → Q l1 (kup σ 0 0 0)) ∧ (l3 < σ 5 1 → Run G WX M_X5_unlikeStrips 5 0 0 [vA G 82, vI l3] σ (fun r12 s13 => (rI r12) ∧ (rI l2) ∧ ((r12 ≤ l2 → E_X11_telling_34 G l1 l2 (l3 + 1) s13 Q) ∧ (l2 < r12 → E_X11_telling_34 G l3 r12 (l3 + 1) s13 Q)))))) : E_X11_telling_34 G l1 l2 l3 σ Q := by
  refine R_iload_n e_X11_telling_1.2.2.2.2.2.2.2.2.2 3 rfl ?_
  refine R_aload_n e_X11_telling_2.1 0 rfl ?_
  refine R_getA 11 7 5 e_X11_telling_2.2.1 f_X11_43 kx_0 (fun _ _ => rfl) rx_0_7 (by decide) ?_
  refine R_getI 0 1 1 e_X11_telling_2.2.2.1 f_X11_197 (kC_self isC_5) (fun _ _ => rfl) rfl ?_
  obtain ⟨q8, h⟩ := h
  obtain ⟨q9, h⟩ := h
  refine R_icmp_ge 72 e_X11_telling_2.2.2.2.1 (by decide) q8 q9 (fun q => ?_) (fun q => ?_)
  · replace h := h.1 q
    refine R_aload_n e_X11_telling_3.2.2.2.2.2.2.2.2.1 0 rfl ?_
    refine R_iload_n e_X11_telling_3.2.2.2.2.2.2.2.2.2 1 rfl ?_
    refine R_callV (mc := 0) (ms := 0) (mc' := 0) (ms' := 0) (M' := M_X11_give) (d' := 0) (as := [vI l1]) (st := []) 11 1 e_X11_telling_4.1 (kCVof m_X11_give l_X11_176) rfl (by decide) kx_0 (by decide) (by decide) rfl rfl (by show (0 : Nat) ≤ 8; decide) ?_
    refine S_X11_give ?_
    refine R_eqs (st2 := [vI l1]) (σ2 := (kup σ 0 0 0)) rfl rfl ?_
    exact R_ireturn e_X11_telling_4.2 rfl h
  · replace h := h.2 q
    refine R_aload_n e_X11_telling_2.2.2.2.2.1 0 rfl ?_
    refine R_getA 11 15 82 e_X11_telling_2.2.2.2.2.2.1 f_X11_93 kx_0 (fun _ _ => rfl) rx_0_15 (by decide) ?_
    refine R_iload_n e_X11_telling_2.2.2.2.2.2.2.1 3 rfl ?_
    refine R_callV (mc := 0) (ms := 0) (mc' := 0) (ms' := 0) (M' := M_X5_unlikeStrips) (d' := 5) (as := [vI l3]) (st := []) 5 1 e_X11_telling_2.2.2.2.2.2.2.2.1 (kCVof m_X5_unlikeStrips l_X11_438) rfl (by decide) kx_82 (by decide) (by decide) rfl rfl (by show (0 : Nat) ≤ 8; decide) ?_
    refine Run.mono h (fun r12 s13 h => ?_)
    refine R_eqs (st2 := [vI r12]) rfl rfl ?_
    refine R_istore (ls2 := [(4, vI r12), (0, vA G 0), (1, vI l1), (2, vI l2), (3, vI l3)]) e_X11_telling_2.2.2.2.2.2.2.2.2.1 (by decide) rfl ?_
    refine R_iload e_X11_telling_2.2.2.2.2.2.2.2.2.2 0 rfl ?_
    refine R_iload_n e_X11_telling_3.1 3 rfl ?_
    obtain ⟨q14, h⟩ := h
    obtain ⟨q15, h⟩ := h
    refine R_icmp_le 66 e_X11_telling_3.2.1 (by decide) q14 q15 (fun q => ?_) (fun q => ?_)
    · replace h := h.1 q
      refine R_iinc (ls2 := [(3, vI (l3 + 1)), (4, vI r12), (0, vA G 0), (1, vI l1), (2, vI l2)]) e_X11_telling_3.2.2.2.2.2.2.1 4 rfl (by decide) rfl ?_
      refine R_goto 34 e_X11_telling_3.2.2.2.2.2.2.2.1 (by decide) ?_
      refine R_ls (ls2 := [(0, vA G 0), (1, vI l1), (2, vI l2), (3, vI (l3 + 1))]) [2, 3, 4, 0] rfl ?_
      exact h
    · replace h := h.2 q
      refine R_iload e_X11_telling_3.2.2.1 0 rfl ?_
      refine R_istore_n (ls2 := [(2, vI r12), (4, vI r12), (0, vA G 0), (1, vI l1), (3, vI l3)]) e_X11_telling_3.2.2.2.1 (by decide) rfl ?_
      refine R_iload_n e_X11_telling_3.2.2.2.2.1 4 rfl ?_
      refine R_istore_n (ls2 := [(1, vI l3), (2, vI r12), (4, vI r12), (0, vA G 0), (3, vI l3)]) e_X11_telling_3.2.2.2.2.2.1 (by decide) rfl ?_
      refine R_iinc (ls2 := [(3, vI (l3 + 1)), (1, vI l3), (2, vI r12), (4, vI r12), (0, vA G 0)]) e_X11_telling_3.2.2.2.2.2.2.1 4 rfl (by decide) rfl ?_
      refine R_goto 34 e_X11_telling_3.2.2.2.2.2.2.2.1 (by decide) ?_
      refine R_ls (ls2 := [(0, vA G 0), (1, vI l3), (2, vI r12), (3, vI (l3 + 1))]) [4, 1, 2, 0] rfl ?_
      exact h
/-! KiteLand.strips(I)I -/
theorem e_X11_strips_0 : decode cX11_strips 0 = .ok (.aload_n 0, 1) ∧ decode cX11_strips 1 = .ok (.getfield 43, 3) ∧ decode cX11_strips 4 = .ok (.iload_n 1, 1) ∧ decode cX11_strips 5 = .ok (.invokevirtual 421, 3) ∧ decode cX11_strips 8 = .ok (.ifCond .ne 9, 3) ∧ decode cX11_strips 11 = .ok (.aload_n 0, 1) ∧ decode cX11_strips 12 = .ok (.iconst 1, 1) ∧ decode cX11_strips 13 = .ok (.invokevirtual 132, 3) ∧ decode cX11_strips 16 = .ok (.ireturn, 1) ∧ decode cX11_strips 17 = .ok (.aload_n 0, 1) := by decide +kernel
theorem e_X11_strips_1 : decode cX11_strips 18 = .ok (.getfield 47, 3) ∧ decode cX11_strips 21 = .ok (.aload_n 0, 1) ∧ decode cX11_strips 22 = .ok (.getfield 43, 3) ∧ decode cX11_strips 25 = .ok (.invokevirtual 167, 3) ∧ decode cX11_strips 28 = .ok (.aload_n 0, 1) ∧ decode cX11_strips 29 = .ok (.aload_n 0, 1) ∧ decode cX11_strips 30 = .ok (.getfield 93, 3) ∧ decode cX11_strips 33 = .ok (.iload_n 1, 1) ∧ decode cX11_strips 34 = .ok (.invokevirtual 438, 3) ∧ decode cX11_strips 37 = .ok (.invokevirtual 176, 3) := by decide +kernel
theorem e_X11_strips_2 : decode cX11_strips 40 = .ok (.ireturn, 1) := by decide +kernel
theorem S_X11_strips {G : Kg} {σ : Kmem} {Q : Int → Kmem → Prop} {l1 : Int} {v : Int → Int}  (h : (wf v ∧ kco σ 5 v ∧ rI (l1)) ∧ ((((0 : Int) ≤ l1 ∧ (l1 : Int) < v 1) → Run G WX M_X0_copy 1 0 0 [vA G 31, vA G 5] σ (fun r4 s5 => Run G WX M_X5_unlikeStrips 5 0 0 [vA G 82, vI l1] s5 (fun r6 s7 => Q r6 (kup s7 0 0 0)))) ∧ (¬ ((0 : Int) ≤ l1 ∧ (l1 : Int) < v 1) → Q (-1) (kup σ 0 0 1)))) : Run G WX M_X11_strips 6 0 0 [vA G 0, vI l1] σ Q := by
  refine Run.of (by decide +kernel) (by show (2 : Nat) ≤ 2; decide) ?_
  show Ex G WX M_X11_strips 6 0 0 0 [(0, vA G 0), (1, vI l1)] [] σ Q
  refine R_aload_n e_X11_strips_0.1 0 rfl ?_
  refine R_getA 11 7 5 e_X11_strips_0.2.1 f_X11_43 kx_0 (fun _ _ => rfl) rx_0_7 (by decide) ?_
  refine R_iload_n e_X11_strips_0.2.2.1 1 rfl ?_
  obtain ⟨q3, h⟩ := h
  refine R_callV (mc := 0) (ms := 0) (mc' := 0) (ms' := 0) (M' := M_X0_hasRow) (d' := 0) (as := [vI l1]) (st := []) 0 1 e_X11_strips_0.2.2.2.1 (kCVof m_X0_hasRow l_X11_421) rfl (by decide) (kC_self isC_5) (by decide) (by decide) rfl rfl (by show (0 : Nat) ≤ 8; decide) ?_
  refine Run.mono (P_X0_hasRow isC_5 q3) (fun rr ss e => ?_)
  obtain ⟨e1, e2⟩ := e
  refine R_eqs (st2 := [vI (kb ((0 : Int) ≤ l1 ∧ (l1 : Int) < v 1))]) (σ2 := σ) (by rw [e1]; rfl) e2 ?_
  refine R_if_ne 17 e_X11_strips_0.2.2.2.2.1 (by decide) (kb_r _) (fun q => ?_) (fun q => ?_)
  · replace h := h.1 (kb_t q)
    refine R_aload_n e_X11_strips_0.2.2.2.2.2.2.2.2.2 0 rfl ?_
    refine R_getA 11 8 31 e_X11_strips_1.1 f_X11_47 kx_0 (fun _ _ => rfl) rx_0_8 (by decide) ?_
    refine R_aload_n e_X11_strips_1.2.1 0 rfl ?_
    refine R_getA 11 7 5 e_X11_strips_1.2.2.1 f_X11_43 kx_0 (fun _ _ => rfl) rx_0_7 (by decide) ?_
    refine R_callV (mc := 0) (ms := 0) (mc' := 0) (ms' := 0) (M' := M_X0_copy) (d' := 1) (as := [vA G 5]) (st := []) 0 1 e_X11_strips_1.2.2.2.1 (kCVof m_X0_copy l_X11_167) rfl (by decide) (kC_self isC_31) (by decide) (by decide) rfl rfl (by show (0 : Nat) ≤ 8; decide) ?_
    refine Run.mono h (fun r4 s5 h => ?_)
    refine R_eqs (st2 := []) rfl rfl ?_
    refine R_aload_n e_X11_strips_1.2.2.2.2.1 0 rfl ?_
    refine R_aload_n e_X11_strips_1.2.2.2.2.2.1 0 rfl ?_
    refine R_getA 11 15 82 e_X11_strips_1.2.2.2.2.2.2.1 f_X11_93 kx_0 (fun _ _ => rfl) rx_0_15 (by decide) ?_
    refine R_iload_n e_X11_strips_1.2.2.2.2.2.2.2.1 1 rfl ?_
    refine R_callV (mc := 0) (ms := 0) (mc' := 0) (ms' := 0) (M' := M_X5_unlikeStrips) (d' := 5) (as := [vI l1]) (st := [vA G 0]) 5 1 e_X11_strips_1.2.2.2.2.2.2.2.2.1 (kCVof m_X5_unlikeStrips l_X11_438) rfl (by decide) kx_82 (by decide) (by decide) rfl rfl (by show (1 : Nat) ≤ 8; decide) ?_
    refine Run.mono h (fun r6 s7 h => ?_)
    refine R_eqs (st2 := [vI r6, vA G 0]) rfl rfl ?_
    refine R_callV (mc := 0) (ms := 0) (mc' := 0) (ms' := 0) (M' := M_X11_give) (d' := 0) (as := [vI r6]) (st := []) 11 1 e_X11_strips_1.2.2.2.2.2.2.2.2.2 (kCVof m_X11_give l_X11_176) rfl (by decide) kx_0 (by decide) (by decide) rfl rfl (by show (0 : Nat) ≤ 8; decide) ?_
    refine S_X11_give ?_
    refine R_eqs (st2 := [vI r6]) (σ2 := (kup s7 0 0 0)) rfl rfl ?_
    exact R_ireturn e_X11_strips_2 rfl h
  · replace h := h.2 (kb_f q)
    refine R_aload_n e_X11_strips_0.2.2.2.2.2.1 0 rfl ?_
    refine R_iconst e_X11_strips_0.2.2.2.2.2.2.1 ?_
    refine R_callV (mc := 0) (ms := 0) (mc' := 0) (ms' := 0) (M' := M_X11_deny) (d' := 0) (as := [vI 1]) (st := []) 11 1 e_X11_strips_0.2.2.2.2.2.2.2.1 (kCVof m_X11_deny l_X11_132) rfl (by decide) kx_0 (by decide) (by decide) rfl rfl (by show (0 : Nat) ≤ 8; decide) ?_
    refine S_X11_deny ?_
    refine R_eqs (st2 := [vI (-1)]) (σ2 := (kup σ 0 0 1)) rfl rfl ?_
    exact R_ireturn e_X11_strips_0.2.2.2.2.2.2.2.2.1 rfl h
/-! KiteLand.duel(III)I -/
theorem e_X11_duel_0 : decode cX11_duel 0 = .ok (.aload_n 0, 1) ∧ decode cX11_duel 1 = .ok (.getfield 43, 3) ∧ decode cX11_duel 4 = .ok (.iload_n 1, 1) ∧ decode cX11_duel 5 = .ok (.invokevirtual 238, 3) ∧ decode cX11_duel 8 = .ok (.ifCond .eq 28, 3) ∧ decode cX11_duel 11 = .ok (.aload_n 0, 1) ∧ decode cX11_duel 12 = .ok (.getfield 43, 3) ∧ decode cX11_duel 15 = .ok (.iload_n 2, 1) ∧ decode cX11_duel 16 = .ok (.invokevirtual 238, 3) ∧ decode cX11_duel 19 = .ok (.ifCond .eq 17, 3) := by decide +kernel
theorem e_X11_duel_1 : decode cX11_duel 22 = .ok (.iload_n 1, 1) ∧ decode cX11_duel 23 = .ok (.iload_n 2, 1) ∧ decode cX11_duel 24 = .ok (.if_icmp .eq 12, 3) ∧ decode cX11_duel 27 = .ok (.iload_n 3, 1) ∧ decode cX11_duel 28 = .ok (.ifCond .lt 8, 3) ∧ decode cX11_duel 31 = .ok (.iload_n 3, 1) ∧ decode cX11_duel 32 = .ok (.iconst 4, 1) ∧ decode cX11_duel 33 = .ok (.if_icmp .le 9, 3) ∧ decode cX11_duel 36 = .ok (.aload_n 0, 1) ∧ decode cX11_duel 37 = .ok (.iconst 1, 1) := by decide +kernel
theorem e_X11_duel_2 : decode cX11_duel 38 = .ok (.invokevirtual 132, 3) ∧ decode cX11_duel 41 = .ok (.ireturn, 1) ∧ decode cX11_duel 42 = .ok (.aload_n 0, 1) ∧ decode cX11_duel 43 = .ok (.getfield 47, 3) ∧ decode cX11_duel 46 = .ok (.aload_n 0, 1) ∧ decode cX11_duel 47 = .ok (.getfield 43, 3) ∧ decode cX11_duel 50 = .ok (.invokevirtual 167, 3) ∧ decode cX11_duel 53 = .ok (.aload_n 0, 1) ∧ decode cX11_duel 54 = .ok (.getfield 93, 3) ∧ decode cX11_duel 57 = .ok (.iload_n 1, 1) := by decide +kernel
theorem e_X11_duel_3 : decode cX11_duel 58 = .ok (.iload_n 2, 1) ∧ decode cX11_duel 59 = .ok (.iload_n 3, 1) ∧ decode cX11_duel 60 = .ok (.invokevirtual 441, 3) ∧ decode cX11_duel 63 = .ok (.aload_n 0, 1) ∧ decode cX11_duel 64 = .ok (.aload_n 0, 1) ∧ decode cX11_duel 65 = .ok (.getfield 93, 3) ∧ decode cX11_duel 68 = .ok (.getfield 445, 3) ∧ decode cX11_duel 71 = .ok (.invokevirtual 176, 3) ∧ decode cX11_duel 74 = .ok (.ireturn, 1) := by decide +kernel
theorem S_X11_duel {G : Kg} {σ : Kmem} {Q : Int → Kmem → Prop} {l1 l2 l3 : Int} {v : Int → Int}  (h : (wf v ∧ kco σ 5 v ∧ rI (l1)) ∧ ((¬ (sKt v (l1)) → Q (-1) (kup σ 0 0 1)) ∧ ((sKt v (l1)) → (wf v ∧ kco σ 5 v ∧ rI (l2)) ∧ ((¬ (sKt v (l2)) → Q (-1) (kup σ 0 0 1)) ∧ ((sKt v (l2)) → (rI l1) ∧ (rI l2) ∧ ((l1 = l2 → Q (-1) (kup σ 0 0 1)) ∧ (l1 ≠ l2 → (rI l3) ∧ ((l3 < 0 → Q (-1) (kup σ 0 0 1)) ∧ (0 ≤ l3 → ((l3 ≤ 4 → Run G WX M_X0_copy 1 0 0 [vA G 31, vA G 5] σ (fun r18 s19 => Run G WX M_X5_seekDuel 21 0 0 [vA G 82, vI l1, vI l2, vI l3] s19 (fun r20 s21 => Q (s21 82 12) (kup s21 0 0 0)))) ∧ (4 < l3 → Q (-1) (kup σ 0 0 1)))))))))))) : Run G WX M_X11_duel 22 0 0 [vA G 0, vI l1, vI l2, vI l3] σ Q := by
  refine Run.of (by decide +kernel) (by show (4 : Nat) ≤ 4; decide) ?_
  show Ex G WX M_X11_duel 22 0 0 0 [(0, vA G 0), (1, vI l1), (2, vI l2), (3, vI l3)] [] σ Q
  refine R_aload_n e_X11_duel_0.1 0 rfl ?_
  refine R_getA 11 7 5 e_X11_duel_0.2.1 f_X11_43 kx_0 (fun _ _ => rfl) rx_0_7 (by decide) ?_
  refine R_iload_n e_X11_duel_0.2.2.1 1 rfl ?_
  obtain ⟨q3, h⟩ := h
  refine R_callV (mc := 0) (ms := 0) (mc' := 0) (ms' := 0) (M' := M_X0_hasKite) (d' := 0) (as := [vI l1]) (st := []) 0 1 e_X11_duel_0.2.2.2.1 (kCVof m_X0_hasKite l_X11_238) rfl (by decide) (kC_self isC_5) (by decide) (by decide) rfl rfl (by show (0 : Nat) ≤ 8; decide) ?_
  refine Run.mono (P_X0_hasKite isC_5 q3) (fun rr ss e => ?_)
  obtain ⟨e1, e2⟩ := e
  refine R_eqs (st2 := [vI (kb (sKt v (l1)))]) (σ2 := σ) (by rw [e1]; rfl) e2 ?_
  refine R_if_eq 36 e_X11_duel_0.2.2.2.2.1 (by decide) (kb_r _) (fun q => ?_) (fun q => ?_)
  · replace h := h.1 (kb_f q)
    refine R_aload_n e_X11_duel_1.2.2.2.2.2.2.2.2.1 0 rfl ?_
    refine R_iconst e_X11_duel_1.2.2.2.2.2.2.2.2.2 ?_
    refine R_callV (mc := 0) (ms := 0) (mc' := 0) (ms' := 0) (M' := M_X11_deny) (d' := 0) (as := [vI 1]) (st := []) 11 1 e_X11_duel_2.1 (kCVof m_X11_deny l_X11_132) rfl (by decide) kx_0 (by decide) (by decide) rfl rfl (by show (0 : Nat) ≤ 8; decide) ?_
    refine S_X11_deny ?_
    refine R_eqs (st2 := [vI (-1)]) (σ2 := (kup σ 0 0 1)) rfl rfl ?_
    exact R_ireturn e_X11_duel_2.2.1 rfl h
  · replace h := h.2 (kb_t q)
    refine R_aload_n e_X11_duel_0.2.2.2.2.2.1 0 rfl ?_
    refine R_getA 11 7 5 e_X11_duel_0.2.2.2.2.2.2.1 f_X11_43 kx_0 (fun _ _ => rfl) rx_0_7 (by decide) ?_
    refine R_iload_n e_X11_duel_0.2.2.2.2.2.2.2.1 2 rfl ?_
    obtain ⟨q8, h⟩ := h
    refine R_callV (mc := 0) (ms := 0) (mc' := 0) (ms' := 0) (M' := M_X0_hasKite) (d' := 0) (as := [vI l2]) (st := []) 0 1 e_X11_duel_0.2.2.2.2.2.2.2.2.1 (kCVof m_X0_hasKite l_X11_238) rfl (by decide) (kC_self isC_5) (by decide) (by decide) rfl rfl (by show (0 : Nat) ≤ 8; decide) ?_
    refine Run.mono (P_X0_hasKite isC_5 q8) (fun rr ss e => ?_)
    obtain ⟨e1, e2⟩ := e
    refine R_eqs (st2 := [vI (kb (sKt v (l2)))]) (σ2 := σ) (by rw [e1]; rfl) e2 ?_
    refine R_if_eq 36 e_X11_duel_0.2.2.2.2.2.2.2.2.2 (by decide) (kb_r _) (fun q => ?_) (fun q => ?_)
    · replace h := h.1 (kb_f q)
      refine R_aload_n e_X11_duel_1.2.2.2.2.2.2.2.2.1 0 rfl ?_
      refine R_iconst e_X11_duel_1.2.2.2.2.2.2.2.2.2 ?_
      refine R_callV (mc := 0) (ms := 0) (mc' := 0) (ms' := 0) (M' := M_X11_deny) (d' := 0) (as := [vI 1]) (st := []) 11 1 e_X11_duel_2.1 (kCVof m_X11_deny l_X11_132) rfl (by decide) kx_0 (by decide) (by decide) rfl rfl (by show (0 : Nat) ≤ 8; decide) ?_
      refine S_X11_deny ?_
      refine R_eqs (st2 := [vI (-1)]) (σ2 := (kup σ 0 0 1)) rfl rfl ?_
      exact R_ireturn e_X11_duel_2.2.1 rfl h
    · replace h := h.2 (kb_t q)
      refine R_iload_n e_X11_duel_1.1 1 rfl ?_
      refine R_iload_n e_X11_duel_1.2.1 2 rfl ?_
      obtain ⟨q11, h⟩ := h
      obtain ⟨q12, h⟩ := h
      refine R_icmp_eq 36 e_X11_duel_1.2.2.1 (by decide) q11 q12 (fun q => ?_) (fun q => ?_)
      · replace h := h.1 q
        refine R_aload_n e_X11_duel_1.2.2.2.2.2.2.2.2.1 0 rfl ?_
        refine R_iconst e_X11_duel_1.2.2.2.2.2.2.2.2.2 ?_
        refine R_callV (mc := 0) (ms := 0) (mc' := 0) (ms' := 0) (M' := M_X11_deny) (d' := 0) (as := [vI 1]) (st := []) 11 1 e_X11_duel_2.1 (kCVof m_X11_deny l_X11_132) rfl (by decide) kx_0 (by decide) (by decide) rfl rfl (by show (0 : Nat) ≤ 8; decide) ?_
        refine S_X11_deny ?_
        refine R_eqs (st2 := [vI (-1)]) (σ2 := (kup σ 0 0 1)) rfl rfl ?_
        exact R_ireturn e_X11_duel_2.2.1 rfl h
      · replace h := h.2 q
        refine R_iload_n e_X11_duel_1.2.2.2.1 3 rfl ?_
        obtain ⟨q15, h⟩ := h
        refine R_if_lt 36 e_X11_duel_1.2.2.2.2.1 (by decide) q15  (fun q => ?_) (fun q => ?_)
        · replace h := h.1 q
          refine R_aload_n e_X11_duel_1.2.2.2.2.2.2.2.2.1 0 rfl ?_
          refine R_iconst e_X11_duel_1.2.2.2.2.2.2.2.2.2 ?_
          refine R_callV (mc := 0) (ms := 0) (mc' := 0) (ms' := 0) (M' := M_X11_deny) (d' := 0) (as := [vI 1]) (st := []) 11 1 e_X11_duel_2.1 (kCVof m_X11_deny l_X11_132) rfl (by decide) kx_0 (by decide) (by decide) rfl rfl (by show (0 : Nat) ≤ 8; decide) ?_
          refine S_X11_deny ?_
          refine R_eqs (st2 := [vI (-1)]) (σ2 := (kup σ 0 0 1)) rfl rfl ?_
          exact R_ireturn e_X11_duel_2.2.1 rfl h
        · replace h := h.2 q
          refine R_iload_n e_X11_duel_1.2.2.2.2.2.1 3 rfl ?_
          refine R_iconst e_X11_duel_1.2.2.2.2.2.2.1 ?_
          refine R_icmp_le 42 e_X11_duel_1.2.2.2.2.2.2.2.1 (by decide) q15 (by decide) (fun q => ?_) (fun q => ?_)
          · replace h := h.1 q
            refine R_aload_n e_X11_duel_2.2.2.1 0 rfl ?_
            refine R_getA 11 8 31 e_X11_duel_2.2.2.2.1 f_X11_47 kx_0 (fun _ _ => rfl) rx_0_8 (by decide) ?_
            refine R_aload_n e_X11_duel_2.2.2.2.2.1 0 rfl ?_
            refine R_getA 11 7 5 e_X11_duel_2.2.2.2.2.2.1 f_X11_43 kx_0 (fun _ _ => rfl) rx_0_7 (by decide) ?_
            refine R_callV (mc := 0) (ms := 0) (mc' := 0) (ms' := 0) (M' := M_X0_copy) (d' := 1) (as := [vA G 5]) (st := []) 0 1 e_X11_duel_2.2.2.2.2.2.2.1 (kCVof m_X0_copy l_X11_167) rfl (by decide) (kC_self isC_31) (by decide) (by decide) rfl rfl (by show (0 : Nat) ≤ 8; decide) ?_
            refine Run.mono h (fun r18 s19 h => ?_)
            refine R_eqs (st2 := []) rfl rfl ?_
            refine R_aload_n e_X11_duel_2.2.2.2.2.2.2.2.1 0 rfl ?_
            refine R_getA 11 15 82 e_X11_duel_2.2.2.2.2.2.2.2.2.1 f_X11_93 kx_0 (fun _ _ => rfl) rx_0_15 (by decide) ?_
            refine R_iload_n e_X11_duel_2.2.2.2.2.2.2.2.2.2 1 rfl ?_
            refine R_iload_n e_X11_duel_3.1 2 rfl ?_
            refine R_iload_n e_X11_duel_3.2.1 3 rfl ?_
            refine R_callV (mc := 0) (ms := 0) (mc' := 0) (ms' := 0) (M' := M_X5_seekDuel) (d' := 21) (as := [vI l1, vI l2, vI l3]) (st := []) 5 3 e_X11_duel_3.2.2.1 (kCVof m_X5_seekDuel l_X11_441) rfl (by decide) kx_82 (by decide) (by decide) rfl rfl (by show (0 : Nat) ≤ 8; decide) ?_
            refine Run.mono h (fun r20 s21 h => ?_)
            refine R_eqs (st2 := []) rfl rfl ?_
            refine R_aload_n e_X11_duel_3.2.2.2.1 0 rfl ?_
            refine R_aload_n e_X11_duel_3.2.2.2.2.1 0 rfl ?_
            refine R_getA 11 15 82 e_X11_duel_3.2.2.2.2.2.1 f_X11_93 kx_0 (fun _ _ => rfl) rx_0_15 (by decide) ?_
            refine R_getI 5 12 12 e_X11_duel_3.2.2.2.2.2.2.1 f_X11_445 kx_82 (fun _ _ => rfl) rfl ?_
            refine R_callV (mc := 0) (ms := 0) (mc' := 0) (ms' := 0) (M' := M_X11_give) (d' := 0) (as := [vI (s21 82 12)]) (st := []) 11 1 e_X11_duel_3.2.2.2.2.2.2.2.1 (kCVof m_X11_give l_X11_176) rfl (by decide) kx_0 (by decide) (by decide) rfl rfl (by show (0 : Nat) ≤ 8; decide) ?_
            refine S_X11_give ?_
            refine R_eqs (st2 := [vI (s21 82 12)]) (σ2 := (kup s21 0 0 0)) rfl rfl ?_
            exact R_ireturn e_X11_duel_3.2.2.2.2.2.2.2.2 rfl h
          · replace h := h.2 q
            refine R_aload_n e_X11_duel_1.2.2.2.2.2.2.2.2.1 0 rfl ?_
            refine R_iconst e_X11_duel_1.2.2.2.2.2.2.2.2.2 ?_
            refine R_callV (mc := 0) (ms := 0) (mc' := 0) (ms' := 0) (M' := M_X11_deny) (d' := 0) (as := [vI 1]) (st := []) 11 1 e_X11_duel_2.1 (kCVof m_X11_deny l_X11_132) rfl (by decide) kx_0 (by decide) (by decide) rfl rfl (by show (0 : Nat) ≤ 8; decide) ?_
            refine S_X11_deny ?_
            refine R_eqs (st2 := [vI (-1)]) (σ2 := (kup σ 0 0 1)) rfl rfl ?_
            exact R_ireturn e_X11_duel_2.2.1 rfl h
/-! KiteLand.duelStep(III)I -/
theorem e_X11_duelStep_0 : decode cX11_duelStep 0 = .ok (.aload_n 0, 1) ∧ decode cX11_duelStep 1 = .ok (.getfield 43, 3) ∧ decode cX11_duelStep 4 = .ok (.iload_n 1, 1) ∧ decode cX11_duelStep 5 = .ok (.invokevirtual 238, 3) ∧ decode cX11_duelStep 8 = .ok (.ifCond .eq 29, 3) ∧ decode cX11_duelStep 11 = .ok (.aload_n 0, 1) ∧ decode cX11_duelStep 12 = .ok (.getfield 43, 3) ∧ decode cX11_duelStep 15 = .ok (.iload_n 2, 1) ∧ decode cX11_duelStep 16 = .ok (.invokevirtual 238, 3) ∧ decode cX11_duelStep 19 = .ok (.ifCond .eq 18, 3) := by decide +kernel
theorem e_X11_duelStep_1 : decode cX11_duelStep 22 = .ok (.iload_n 1, 1) ∧ decode cX11_duelStep 23 = .ok (.iload_n 2, 1) ∧ decode cX11_duelStep 24 = .ok (.if_icmp .eq 13, 3) ∧ decode cX11_duelStep 27 = .ok (.iload_n 3, 1) ∧ decode cX11_duelStep 28 = .ok (.iconst 1, 1) ∧ decode cX11_duelStep 29 = .ok (.if_icmp .lt 8, 3) ∧ decode cX11_duelStep 32 = .ok (.iload_n 3, 1) ∧ decode cX11_duelStep 33 = .ok (.iconst 4, 1) ∧ decode cX11_duelStep 34 = .ok (.if_icmp .le 9, 3) ∧ decode cX11_duelStep 37 = .ok (.aload_n 0, 1) := by decide +kernel
theorem e_X11_duelStep_2 : decode cX11_duelStep 38 = .ok (.iconst 1, 1) ∧ decode cX11_duelStep 39 = .ok (.invokevirtual 132, 3) ∧ decode cX11_duelStep 42 = .ok (.ireturn, 1) ∧ decode cX11_duelStep 43 = .ok (.aload_n 0, 1) ∧ decode cX11_duelStep 44 = .ok (.getfield 47, 3) ∧ decode cX11_duelStep 47 = .ok (.aload_n 0, 1) ∧ decode cX11_duelStep 48 = .ok (.getfield 43, 3) ∧ decode cX11_duelStep 51 = .ok (.invokevirtual 167, 3) ∧ decode cX11_duelStep 54 = .ok (.aload_n 0, 1) ∧ decode cX11_duelStep 55 = .ok (.getfield 93, 3) := by decide +kernel
theorem e_X11_duelStep_3 : decode cX11_duelStep 58 = .ok (.iload_n 1, 1) ∧ decode cX11_duelStep 59 = .ok (.iload_n 2, 1) ∧ decode cX11_duelStep 60 = .ok (.iload_n 3, 1) ∧ decode cX11_duelStep 61 = .ok (.invokevirtual 441, 3) ∧ decode cX11_duelStep 64 = .ok (.aload_n 0, 1) ∧ decode cX11_duelStep 65 = .ok (.aload_n 0, 1) ∧ decode cX11_duelStep 66 = .ok (.getfield 93, 3) ∧ decode cX11_duelStep 69 = .ok (.getfield 448, 3) ∧ decode cX11_duelStep 72 = .ok (.iload_n 3, 1) ∧ decode cX11_duelStep 73 = .ok (.iaload, 1) := by decide +kernel
theorem e_X11_duelStep_4 : decode cX11_duelStep 74 = .ok (.invokevirtual 176, 3) ∧ decode cX11_duelStep 77 = .ok (.ireturn, 1) := by decide +kernel
theorem S_X11_duelStep {G : Kg} {σ : Kmem} {Q : Int → Kmem → Prop} {l1 l2 l3 : Int} {v : Int → Int}  (h : (wf v ∧ kco σ 5 v ∧ rI (l1)) ∧ ((¬ (sKt v (l1)) → Q (-1) (kup σ 0 0 1)) ∧ ((sKt v (l1)) → (wf v ∧ kco σ 5 v ∧ rI (l2)) ∧ ((¬ (sKt v (l2)) → Q (-1) (kup σ 0 0 1)) ∧ ((sKt v (l2)) → (rI l1) ∧ (rI l2) ∧ ((l1 = l2 → Q (-1) (kup σ 0 0 1)) ∧ (l1 ≠ l2 → (rI l3) ∧ ((l3 < 1 → Q (-1) (kup σ 0 0 1)) ∧ (1 ≤ l3 → ((l3 ≤ 4 → Run G WX M_X0_copy 1 0 0 [vA G 31, vA G 5] σ (fun r18 s19 => Run G WX M_X5_seekDuel 21 0 0 [vA G 82, vI l1, vI l2, vI l3] s19 (fun r20 s21 => (0 ≤ l3 ∧ l3 < 5) ∧ Q (s21 86 l3) (kup s21 0 0 0)))) ∧ (4 < l3 → Q (-1) (kup σ 0 0 1)))))))))))) : Run G WX M_X11_duelStep 22 0 0 [vA G 0, vI l1, vI l2, vI l3] σ Q := by
  refine Run.of (by decide +kernel) (by show (4 : Nat) ≤ 4; decide) ?_
  show Ex G WX M_X11_duelStep 22 0 0 0 [(0, vA G 0), (1, vI l1), (2, vI l2), (3, vI l3)] [] σ Q
  refine R_aload_n e_X11_duelStep_0.1 0 rfl ?_
  refine R_getA 11 7 5 e_X11_duelStep_0.2.1 f_X11_43 kx_0 (fun _ _ => rfl) rx_0_7 (by decide) ?_
  refine R_iload_n e_X11_duelStep_0.2.2.1 1 rfl ?_
  obtain ⟨q3, h⟩ := h
  refine R_callV (mc := 0) (ms := 0) (mc' := 0) (ms' := 0) (M' := M_X0_hasKite) (d' := 0) (as := [vI l1]) (st := []) 0 1 e_X11_duelStep_0.2.2.2.1 (kCVof m_X0_hasKite l_X11_238) rfl (by decide) (kC_self isC_5) (by decide) (by decide) rfl rfl (by show (0 : Nat) ≤ 8; decide) ?_
  refine Run.mono (P_X0_hasKite isC_5 q3) (fun rr ss e => ?_)
  obtain ⟨e1, e2⟩ := e
  refine R_eqs (st2 := [vI (kb (sKt v (l1)))]) (σ2 := σ) (by rw [e1]; rfl) e2 ?_
  refine R_if_eq 37 e_X11_duelStep_0.2.2.2.2.1 (by decide) (kb_r _) (fun q => ?_) (fun q => ?_)
  · replace h := h.1 (kb_f q)
    refine R_aload_n e_X11_duelStep_1.2.2.2.2.2.2.2.2.2 0 rfl ?_
    refine R_iconst e_X11_duelStep_2.1 ?_
    refine R_callV (mc := 0) (ms := 0) (mc' := 0) (ms' := 0) (M' := M_X11_deny) (d' := 0) (as := [vI 1]) (st := []) 11 1 e_X11_duelStep_2.2.1 (kCVof m_X11_deny l_X11_132) rfl (by decide) kx_0 (by decide) (by decide) rfl rfl (by show (0 : Nat) ≤ 8; decide) ?_
    refine S_X11_deny ?_
    refine R_eqs (st2 := [vI (-1)]) (σ2 := (kup σ 0 0 1)) rfl rfl ?_
    exact R_ireturn e_X11_duelStep_2.2.2.1 rfl h
  · replace h := h.2 (kb_t q)
    refine R_aload_n e_X11_duelStep_0.2.2.2.2.2.1 0 rfl ?_
    refine R_getA 11 7 5 e_X11_duelStep_0.2.2.2.2.2.2.1 f_X11_43 kx_0 (fun _ _ => rfl) rx_0_7 (by decide) ?_
    refine R_iload_n e_X11_duelStep_0.2.2.2.2.2.2.2.1 2 rfl ?_
    obtain ⟨q8, h⟩ := h
    refine R_callV (mc := 0) (ms := 0) (mc' := 0) (ms' := 0) (M' := M_X0_hasKite) (d' := 0) (as := [vI l2]) (st := []) 0 1 e_X11_duelStep_0.2.2.2.2.2.2.2.2.1 (kCVof m_X0_hasKite l_X11_238) rfl (by decide) (kC_self isC_5) (by decide) (by decide) rfl rfl (by show (0 : Nat) ≤ 8; decide) ?_
    refine Run.mono (P_X0_hasKite isC_5 q8) (fun rr ss e => ?_)
    obtain ⟨e1, e2⟩ := e
    refine R_eqs (st2 := [vI (kb (sKt v (l2)))]) (σ2 := σ) (by rw [e1]; rfl) e2 ?_
    refine R_if_eq 37 e_X11_duelStep_0.2.2.2.2.2.2.2.2.2 (by decide) (kb_r _) (fun q => ?_) (fun q => ?_)
    · replace h := h.1 (kb_f q)
      refine R_aload_n e_X11_duelStep_1.2.2.2.2.2.2.2.2.2 0 rfl ?_
      refine R_iconst e_X11_duelStep_2.1 ?_
      refine R_callV (mc := 0) (ms := 0) (mc' := 0) (ms' := 0) (M' := M_X11_deny) (d' := 0) (as := [vI 1]) (st := []) 11 1 e_X11_duelStep_2.2.1 (kCVof m_X11_deny l_X11_132) rfl (by decide) kx_0 (by decide) (by decide) rfl rfl (by show (0 : Nat) ≤ 8; decide) ?_
      refine S_X11_deny ?_
      refine R_eqs (st2 := [vI (-1)]) (σ2 := (kup σ 0 0 1)) rfl rfl ?_
      exact R_ireturn e_X11_duelStep_2.2.2.1 rfl h
    · replace h := h.2 (kb_t q)
      refine R_iload_n e_X11_duelStep_1.1 1 rfl ?_
      refine R_iload_n e_X11_duelStep_1.2.1 2 rfl ?_
      obtain ⟨q11, h⟩ := h
      obtain ⟨q12, h⟩ := h
      refine R_icmp_eq 37 e_X11_duelStep_1.2.2.1 (by decide) q11 q12 (fun q => ?_) (fun q => ?_)
      · replace h := h.1 q
        refine R_aload_n e_X11_duelStep_1.2.2.2.2.2.2.2.2.2 0 rfl ?_
        refine R_iconst e_X11_duelStep_2.1 ?_
        refine R_callV (mc := 0) (ms := 0) (mc' := 0) (ms' := 0) (M' := M_X11_deny) (d' := 0) (as := [vI 1]) (st := []) 11 1 e_X11_duelStep_2.2.1 (kCVof m_X11_deny l_X11_132) rfl (by decide) kx_0 (by decide) (by decide) rfl rfl (by show (0 : Nat) ≤ 8; decide) ?_
        refine S_X11_deny ?_
        refine R_eqs (st2 := [vI (-1)]) (σ2 := (kup σ 0 0 1)) rfl rfl ?_
        exact R_ireturn e_X11_duelStep_2.2.2.1 rfl h
      · replace h := h.2 q
        refine R_iload_n e_X11_duelStep_1.2.2.2.1 3 rfl ?_
        refine R_iconst e_X11_duelStep_1.2.2.2.2.1 ?_
        obtain ⟨q15, h⟩ := h
        refine R_icmp_lt 37 e_X11_duelStep_1.2.2.2.2.2.1 (by decide) q15 (by decide) (fun q => ?_) (fun q => ?_)
        · replace h := h.1 q
          refine R_aload_n e_X11_duelStep_1.2.2.2.2.2.2.2.2.2 0 rfl ?_
          refine R_iconst e_X11_duelStep_2.1 ?_
          refine R_callV (mc := 0) (ms := 0) (mc' := 0) (ms' := 0) (M' := M_X11_deny) (d' := 0) (as := [vI 1]) (st := []) 11 1 e_X11_duelStep_2.2.1 (kCVof m_X11_deny l_X11_132) rfl (by decide) kx_0 (by decide) (by decide) rfl rfl (by show (0 : Nat) ≤ 8; decide) ?_
          refine S_X11_deny ?_
          refine R_eqs (st2 := [vI (-1)]) (σ2 := (kup σ 0 0 1)) rfl rfl ?_
          exact R_ireturn e_X11_duelStep_2.2.2.1 rfl h
        · replace h := h.2 q
          refine R_iload_n e_X11_duelStep_1.2.2.2.2.2.2.1 3 rfl ?_
          refine R_iconst e_X11_duelStep_1.2.2.2.2.2.2.2.1 ?_
          refine R_icmp_le 43 e_X11_duelStep_1.2.2.2.2.2.2.2.2.1 (by decide) q15 (by decide) (fun q => ?_) (fun q => ?_)
          · replace h := h.1 q
            refine R_aload_n e_X11_duelStep_2.2.2.2.1 0 rfl ?_
            refine R_getA 11 8 31 e_X11_duelStep_2.2.2.2.2.1 f_X11_47 kx_0 (fun _ _ => rfl) rx_0_8 (by decide) ?_
            refine R_aload_n e_X11_duelStep_2.2.2.2.2.2.1 0 rfl ?_
            refine R_getA 11 7 5 e_X11_duelStep_2.2.2.2.2.2.2.1 f_X11_43 kx_0 (fun _ _ => rfl) rx_0_7 (by decide) ?_
            refine R_callV (mc := 0) (ms := 0) (mc' := 0) (ms' := 0) (M' := M_X0_copy) (d' := 1) (as := [vA G 5]) (st := []) 0 1 e_X11_duelStep_2.2.2.2.2.2.2.2.1 (kCVof m_X0_copy l_X11_167) rfl (by decide) (kC_self isC_31) (by decide) (by decide) rfl rfl (by show (0 : Nat) ≤ 8; decide) ?_
            refine Run.mono h (fun r18 s19 h => ?_)
            refine R_eqs (st2 := []) rfl rfl ?_
            refine R_aload_n e_X11_duelStep_2.2.2.2.2.2.2.2.2.1 0 rfl ?_
            refine R_getA 11 15 82 e_X11_duelStep_2.2.2.2.2.2.2.2.2.2 f_X11_93 kx_0 (fun _ _ => rfl) rx_0_15 (by decide) ?_
            refine R_iload_n e_X11_duelStep_3.1 1 rfl ?_
            refine R_iload_n e_X11_duelStep_3.2.1 2 rfl ?_
            refine R_iload_n e_X11_duelStep_3.2.2.1 3 rfl ?_
            refine R_callV (mc := 0) (ms := 0) (mc' := 0) (ms' := 0) (M' := M_X5_seekDuel) (d' := 21) (as := [vI l1, vI l2, vI l3]) (st := []) 5 3 e_X11_duelStep_3.2.2.2.1 (kCVof m_X5_seekDuel l_X11_441) rfl (by decide) kx_82 (by decide) (by decide) rfl rfl (by show (0 : Nat) ≤ 8; decide) ?_
            refine Run.mono h (fun r20 s21 h => ?_)
            refine R_eqs (st2 := []) rfl rfl ?_
            refine R_aload_n e_X11_duelStep_3.2.2.2.2.1 0 rfl ?_
            refine R_aload_n e_X11_duelStep_3.2.2.2.2.2.1 0 rfl ?_
            refine R_getA 11 15 82 e_X11_duelStep_3.2.2.2.2.2.2.1 f_X11_93 kx_0 (fun _ _ => rfl) rx_0_15 (by decide) ?_
            refine R_getA 5 13 86 e_X11_duelStep_3.2.2.2.2.2.2.2.1 f_X11_448 kx_82 (fun _ _ => rfl) rx_82_13 (by decide) ?_
            refine R_iload_n e_X11_duelStep_3.2.2.2.2.2.2.2.2.1 3 rfl ?_
            obtain ⟨q22, h⟩ := h
            refine R_iald 5 e_X11_duelStep_3.2.2.2.2.2.2.2.2.2 kxa_86 q22 ?_
            refine R_callV (mc := 0) (ms := 0) (mc' := 0) (ms' := 0) (M' := M_X11_give) (d' := 0) (as := [vI (s21 86 l3)]) (st := []) 11 1 e_X11_duelStep_4.1 (kCVof m_X11_give l_X11_176) rfl (by decide) kx_0 (by decide) (by decide) rfl rfl (by show (0 : Nat) ≤ 8; decide) ?_
            refine S_X11_give ?_
            refine R_eqs (st2 := [vI (s21 86 l3)]) (σ2 := (kup s21 0 0 0)) rfl rfl ?_
            exact R_ireturn e_X11_duelStep_4.2 rfl h
          · replace h := h.2 q
            refine R_aload_n e_X11_duelStep_1.2.2.2.2.2.2.2.2.2 0 rfl ?_
            refine R_iconst e_X11_duelStep_2.1 ?_
            refine R_callV (mc := 0) (ms := 0) (mc' := 0) (ms' := 0) (M' := M_X11_deny) (d' := 0) (as := [vI 1]) (st := []) 11 1 e_X11_duelStep_2.2.1 (kCVof m_X11_deny l_X11_132) rfl (by decide) kx_0 (by decide) (by decide) rfl rfl (by show (0 : Nat) ≤ 8; decide) ?_
            refine S_X11_deny ?_
            refine R_eqs (st2 := [vI (-1)]) (σ2 := (kup σ 0 0 1)) rfl rfl ?_
            exact R_ireturn e_X11_duelStep_2.2.2.1 rfl h
/-! KiteLand.needed()I -/
theorem e_X11_needed_0 : decode cX11_needed 0 = .ok (.aload_n 0, 1) ∧ decode cX11_needed 1 = .ok (.invokevirtual 215, 3) ∧ decode cX11_needed 4 = .ok (.iconst (-1), 1) ∧ decode cX11_needed 5 = .ok (.istore_n 1, 1) ∧ decode cX11_needed 6 = .ok (.iconst (-1), 1) ∧ decode cX11_needed 7 = .ok (.istore_n 2, 1) ∧ decode cX11_needed 8 = .ok (.iconst 0, 1) ∧ decode cX11_needed 9 = .ok (.istore_n 3, 1) ∧ decode cX11_needed 10 = .ok (.iload_n 3, 1) ∧ decode cX11_needed 11 = .ok (.aload_n 0, 1) := by decide +kernel
theorem e_X11_needed_1 : decode cX11_needed 12 = .ok (.getfield 43, 3) ∧ decode cX11_needed 15 = .ok (.getfield 173, 3) ∧ decode cX11_needed 18 = .ok (.if_icmp .ge 41, 3) ∧ decode cX11_needed 21 = .ok (.aload_n 0, 1) ∧ decode cX11_needed 22 = .ok (.getfield 64, 3) ∧ decode cX11_needed 25 = .ok (.iload_n 3, 1) ∧ decode cX11_needed 26 = .ok (.invokevirtual 312, 3) ∧ decode cX11_needed 29 = .ok (.ifCond .eq 24, 3) ∧ decode cX11_needed 32 = .ok (.aload_n 0, 1) ∧ decode cX11_needed 33 = .ok (.getfield 64, 3) := by decide +kernel
theorem e_X11_needed_2 : decode cX11_needed 36 = .ok (.iload_n 3, 1) ∧ decode cX11_needed 37 = .ok (.invokevirtual 451, 3) ∧ decode cX11_needed 40 = .ok (.istore 4, 2) ∧ decode cX11_needed 42 = .ok (.iload 4, 2) ∧ decode cX11_needed 44 = .ok (.iload_n 2, 1) ∧ decode cX11_needed 45 = .ok (.if_icmp .le 8, 3) ∧ decode cX11_needed 48 = .ok (.iload 4, 2) ∧ decode cX11_needed 50 = .ok (.istore_n 2, 1) ∧ decode cX11_needed 51 = .ok (.iload_n 3, 1) ∧ decode cX11_needed 52 = .ok (.istore_n 1, 1) := by decide +kernel
theorem e_X11_needed_3 : decode cX11_needed 53 = .ok (.iinc 3 1, 3) ∧ decode cX11_needed 56 = .ok (.goto (-46), 3) ∧ decode cX11_needed 59 = .ok (.iload_n 1, 1) ∧ decode cX11_needed 60 = .ok (.iconst (-1), 1) ∧ decode cX11_needed 61 = .ok (.if_icmp .ne 12, 3) ∧ decode cX11_needed 64 = .ok (.aload_n 0, 1) ∧ decode cX11_needed 65 = .ok (.bipush 6, 2) ∧ decode cX11_needed 67 = .ok (.invokevirtual 132, 3) ∧ decode cX11_needed 70 = .ok (.goto 8, 3) ∧ decode cX11_needed 73 = .ok (.aload_n 0, 1) := by decide +kernel
theorem e_X11_needed_4 : decode cX11_needed 74 = .ok (.iload_n 1, 1) ∧ decode cX11_needed 75 = .ok (.invokevirtual 176, 3) ∧ decode cX11_needed 78 = .ok (.ireturn, 1) := by decide +kernel
abbrev E_X11_needed_10 (G : Kg) (l1 l2 l3 : Int) (σ : Kmem) (Q : Int → Kmem → Prop) : Prop := Ex G WX M_X11_needed 5 0 0 10 [(0, vA G 0), (1, vI l1), (2, vI l2), (3, vI l3)] [] σ Q
theorem S_X11_needed {G : Kg} {σ : Kmem} {Q : Int → Kmem → Prop}  (h : Run G WX M_X11_lookNow 4 0 0 [vA G 0] σ (fun r1 s2 => E_X11_needed_10 G (-1) (-1) 0 s2 Q)) : Run G WX M_X11_needed 5 0 0 [vA G 0] σ Q := by
  refine Run.of (by decide +kernel) (by show (1 : Nat) ≤ 5; decide) ?_
  show Ex G WX M_X11_needed 5 0 0 0 [(0, vA G 0)] [] σ Q
  refine R_aload_n e_X11_needed_0.1 0 rfl ?_
  refine R_callV (mc := 0) (ms := 0) (mc' := 0) (ms' := 0) (M' := M_X11_lookNow) (d' := 4) (as := []) (st := []) 11 0 e_X11_needed_0.2.1 (kCVof m_X11_lookNow l_X11_215) rfl (by decide) kx_0 (by decide) (by decide) rfl rfl (by show (0 : Nat) ≤ 8; decide) ?_
  refine Run.mono h (fun r1 s2 h => ?_)
  refine R_eqs (st2 := []) rfl rfl ?_
  refine R_iconst e_X11_needed_0.2.2.1 ?_
  refine R_istore_n (ls2 := [(1, vI (-1)), (0, vA G 0)]) e_X11_needed_0.2.2.2.1 (by decide) rfl ?_
  refine R_iconst e_X11_needed_0.2.2.2.2.1 ?_
  refine R_istore_n (ls2 := [(2, vI (-1)), (1, vI (-1)), (0, vA G 0)]) e_X11_needed_0.2.2.2.2.2.1 (by decide) rfl ?_
  refine R_iconst e_X11_needed_0.2.2.2.2.2.2.1 ?_
  refine R_istore_n (ls2 := [(3, vI 0), (2, vI (-1)), (1, vI (-1)), (0, vA G 0)]) e_X11_needed_0.2.2.2.2.2.2.2.1 (by decide) rfl ?_
  refine R_ls (ls2 := [(0, vA G 0), (1, vI (-1)), (2, vI (-1)), (3, vI 0)]) [3, 2, 1, 0] rfl ?_
  exact h
theorem S_X11_needed_10 {G : Kg} {σ : Kmem} {Q : Int → Kmem → Prop} {l1 l2 l3 : Int}  (h : (rI l3) ∧ (rI (σ 5 5)) ∧ ((σ 5 5 ≤ l3 → (rI l1) ∧ ((l1 ≠ -1 → Q l1 (kup σ 0 0 0)) ∧ (l1 = -1 → Q (-1) (kup σ 0 0 6)))) ∧ (l3 < σ 5 5 → Run G WX M_X8_isUp 0 0 0 [vA G 58, vI l3] σ (fun r10 s11 => (rI r10) ∧ ((r10 = 0 → E_X11_needed_10 G l1 l2 (l3 + 1) s11 Q) ∧ (r10 ≠ 0 → Run G WX M_X8_shadedAloneBy 0 0 0 [vA G 58, vI l3] s11 (fun r13 s14 => (rI r13) ∧ (rI l2) ∧ ((r13 ≤ l2 → E_X11_needed_10 G l1 l2 (l3 + 1) s14 Q) ∧ (l2 < r13 → E_X11_needed_10 G l3 r13 (l3 + 1) s14 Q))))))))) : E_X11_needed_10 G l1 l2 l3 σ Q := by
  refine R_iload_n e_X11_needed_0.2.2.2.2.2.2.2.2.1 3 rfl ?_
  refine R_aload_n e_X11_needed_0.2.2.2.2.2.2.2.2.2 0 rfl ?_
  refine R_getA 11 7 5 e_X11_needed_1.1 f_X11_43 kx_0 (fun _ _ => rfl) rx_0_7 (by decide) ?_
  refine R_getI 0 5 5 e_X11_needed_1.2.1 f_X11_173 (kC_self isC_5) (fun _ _ => rfl) rfl ?_
  obtain ⟨q3, h⟩ := h
  obtain ⟨q4, h⟩ := h
  refine R_icmp_ge 59 e_X11_needed_1.2.2.1 (by decide) q3 q4 (fun q => ?_) (fun q => ?_)
  · replace h := h.1 q
    refine R_iload_n e_X11_needed_3.2.2.1 1 rfl ?_
    refine R_iconst e_X11_needed_3.2.2.2.1 ?_
    obtain ⟨q5, h⟩ := h
    refine R_icmp_ne 73 e_X11_needed_3.2.2.2.2.1 (by decide) q5 (by decide) (fun q => ?_) (fun q => ?_)
    · replace h := h.1 q
      refine R_aload_n e_X11_needed_3.2.2.2.2.2.2.2.2.2 0 rfl ?_
      refine R_iload_n e_X11_needed_4.1 1 rfl ?_
      refine R_callV (mc := 0) (ms := 0) (mc' := 0) (ms' := 0) (M' := M_X11_give) (d' := 0) (as := [vI l1]) (st := []) 11 1 e_X11_needed_4.2.1 (kCVof m_X11_give l_X11_176) rfl (by decide) kx_0 (by decide) (by decide) rfl rfl (by show (0 : Nat) ≤ 8; decide) ?_
      refine S_X11_give ?_
      refine R_eqs (st2 := [vI l1]) (σ2 := (kup σ 0 0 0)) rfl rfl ?_
      exact R_ireturn e_X11_needed_4.2.2 rfl h
    · replace h := h.2 q
      refine R_aload_n e_X11_needed_3.2.2.2.2.2.1 0 rfl ?_
      refine R_bipush e_X11_needed_3.2.2.2.2.2.2.1 (by decide) ?_
      refine R_callV (mc := 0) (ms := 0) (mc' := 0) (ms' := 0) (M' := M_X11_deny) (d' := 0) (as := [vI 6]) (st := []) 11 1 e_X11_needed_3.2.2.2.2.2.2.2.1 (kCVof m_X11_deny l_X11_132) rfl (by decide) kx_0 (by decide) (by decide) rfl rfl (by show (0 : Nat) ≤ 8; decide) ?_
      refine S_X11_deny ?_
      refine R_eqs (st2 := [vI (-1)]) (σ2 := (kup σ 0 0 6)) rfl rfl ?_
      refine R_goto 78 e_X11_needed_3.2.2.2.2.2.2.2.2.1 (by decide) ?_
      exact R_ireturn e_X11_needed_4.2.2 rfl h
  · replace h := h.2 q
    refine R_aload_n e_X11_needed_1.2.2.2.1 0 rfl ?_
    refine R_getA 11 10 58 e_X11_needed_1.2.2.2.2.1 f_X11_64 kx_0 (fun _ _ => rfl) rx_0_10 (by decide) ?_
    refine R_iload_n e_X11_needed_1.2.2.2.2.2.1 3 rfl ?_
    refine R_callV (mc := 0) (ms := 0) (mc' := 0) (ms' := 0) (M' := M_X8_isUp) (d' := 0) (as := [vI l3]) (st := []) 8 1 e_X11_needed_1.2.2.2.2.2.2.1 (kCVof m_X8_isUp l_X11_312) rfl (by decide) kx_58 (by decide) (by decide) rfl rfl (by show (0 : Nat) ≤ 8; decide) ?_
    refine Run.mono h (fun r10 s11 h => ?_)
    refine R_eqs (st2 := [vI r10]) rfl rfl ?_
    obtain ⟨q12, h⟩ := h
    refine R_if_eq 53 e_X11_needed_1.2.2.2.2.2.2.2.1 (by decide) q12  (fun q => ?_) (fun q => ?_)
    · replace h := h.1 q
      refine R_iinc (ls2 := [(3, vI (l3 + 1)), (0, vA G 0), (1, vI l1), (2, vI l2)]) e_X11_needed_3.1 3 rfl (by decide) rfl ?_
      refine R_goto 10 e_X11_needed_3.2.1 (by decide) ?_
      refine R_ls (ls2 := [(0, vA G 0), (1, vI l1), (2, vI l2), (3, vI (l3 + 1))]) [1, 2, 3, 0] rfl ?_
      exact h
    · replace h := h.2 q
      refine R_aload_n e_X11_needed_1.2.2.2.2.2.2.2.2.1 0 rfl ?_
      refine R_getA 11 10 58 e_X11_needed_1.2.2.2.2.2.2.2.2.2 f_X11_64 kx_0 (fun _ _ => rfl) rx_0_10 (by decide) ?_
      refine R_iload_n e_X11_needed_2.1 3 rfl ?_
      refine R_callV (mc := 0) (ms := 0) (mc' := 0) (ms' := 0) (M' := M_X8_shadedAloneBy) (d' := 0) (as := [vI l3]) (st := []) 8 1 e_X11_needed_2.2.1 (kCVof m_X8_shadedAloneBy l_X11_451) rfl (by decide) kx_58 (by decide) (by decide) rfl rfl (by show (0 : Nat) ≤ 8; decide) ?_
      refine Run.mono h (fun r13 s14 h => ?_)
      refine R_eqs (st2 := [vI r13]) rfl rfl ?_
      refine R_istore (ls2 := [(4, vI r13), (0, vA G 0), (1, vI l1), (2, vI l2), (3, vI l3)]) e_X11_needed_2.2.2.1 (by decide) rfl ?_
      refine R_iload e_X11_needed_2.2.2.2.1 0 rfl ?_
      refine R_iload_n e_X11_needed_2.2.2.2.2.1 3 rfl ?_
      obtain ⟨q15, h⟩ := h
      obtain ⟨q16, h⟩ := h
      refine R_icmp_le 53 e_X11_needed_2.2.2.2.2.2.1 (by decide) q15 q16 (fun q => ?_) (fun q => ?_)
      · replace h := h.1 q
        refine R_iinc (ls2 := [(3, vI (l3 + 1)), (4, vI r13), (0, vA G 0), (1, vI l1), (2, vI l2)]) e_X11_needed_3.1 4 rfl (by decide) rfl ?_
        refine R_goto 10 e_X11_needed_3.2.1 (by decide) ?_
        refine R_ls (ls2 := [(0, vA G 0), (1, vI l1), (2, vI l2), (3, vI (l3 + 1))]) [2, 3, 4, 0] rfl ?_
        exact h
      · replace h := h.2 q
        refine R_iload e_X11_needed_2.2.2.2.2.2.2.1 0 rfl ?_
        refine R_istore_n (ls2 := [(2, vI r13), (4, vI r13), (0, vA G 0), (1, vI l1), (3, vI l3)]) e_X11_needed_2.2.2.2.2.2.2.2.1 (by decide) rfl ?_
        refine R_iload_n e_X11_needed_2.2.2.2.2.2.2.2.2.1 4 rfl ?_
        refine R_istore_n (ls2 := [(1, vI l3), (2, vI r13), (4, vI r13), (0, vA G 0), (3, vI l3)]) e_X11_needed_2.2.2.2.2.2.2.2.2.2 (by decide) rfl ?_
        refine R_iinc (ls2 := [(3, vI (l3 + 1)), (1, vI l3), (2, vI r13), (4, vI r13), (0, vA G 0)]) e_X11_needed_3.1 4 rfl (by decide) rfl ?_
        refine R_goto 10 e_X11_needed_3.2.1 (by decide) ?_
        refine R_ls (ls2 := [(0, vA G 0), (1, vI l3), (2, vI r13), (3, vI (l3 + 1))]) [4, 1, 2, 0] rfl ?_
        exact h
/-! KiteLand.share(I)Z -/
theorem e_X11_share_0 : decode cX11_share 0 = .ok (.aload_n 0, 1) ∧ decode cX11_share 1 = .ok (.getfield 43, 3) ∧ decode cX11_share 4 = .ok (.iload_n 1, 1) ∧ decode cX11_share 5 = .ok (.invokevirtual 238, 3) ∧ decode cX11_share 8 = .ok (.ifCond .ne 9, 3) ∧ decode cX11_share 11 = .ok (.aload_n 0, 1) ∧ decode cX11_share 12 = .ok (.iconst 1, 1) ∧ decode cX11_share 13 = .ok (.invokevirtual 113, 3) ∧ decode cX11_share 16 = .ok (.ireturn, 1) ∧ decode cX11_share 17 = .ok (.lconst 0, 1) := by decide +kernel
theorem e_X11_share_1 : decode cX11_share 18 = .ok (.lstore_n 2, 1) ∧ decode cX11_share 19 = .ok (.iconst 0, 1) ∧ decode cX11_share 20 = .ok (.istore 4, 2) ∧ decode cX11_share 22 = .ok (.iload 4, 2) ∧ decode cX11_share 24 = .ok (.aload_n 0, 1) ∧ decode cX11_share 25 = .ok (.getfield 43, 3) ∧ decode cX11_share 28 = .ok (.getfield 173, 3) ∧ decode cX11_share 31 = .ok (.if_icmp .ge 26, 3) ∧ decode cX11_share 34 = .ok (.lload_n 2, 1) ∧ decode cX11_share 35 = .ok (.aload_n 0, 1) := by decide +kernel
theorem e_X11_share_2 : decode cX11_share 36 = .ok (.getfield 43, 3) ∧ decode cX11_share 39 = .ok (.getfield 241, 3) ∧ decode cX11_share 42 = .ok (.iload 4, 2) ∧ decode cX11_share 44 = .ok (.aaload, 1) ∧ decode cX11_share 45 = .ok (.getfield 262, 3) ∧ decode cX11_share 48 = .ok (.i2l, 1) ∧ decode cX11_share 49 = .ok (.ladd, 1) ∧ decode cX11_share 50 = .ok (.lstore_n 2, 1) ∧ decode cX11_share 51 = .ok (.iinc 4 1, 3) ∧ decode cX11_share 54 = .ok (.goto (-32), 3) := by decide +kernel
theorem e_X11_share_3 : decode cX11_share 57 = .ok (.lload_n 2, 1) ∧ decode cX11_share 58 = .ok (.lconst 0, 1) ∧ decode cX11_share 59 = .ok (.lcmp, 1) ∧ decode cX11_share 60 = .ok (.ifCond .ne 10, 3) ∧ decode cX11_share 63 = .ok (.aload_n 0, 1) ∧ decode cX11_share 64 = .ok (.bipush 6, 2) ∧ decode cX11_share 66 = .ok (.invokevirtual 113, 3) ∧ decode cX11_share 69 = .ok (.ireturn, 1) ∧ decode cX11_share 70 = .ok (.aload_n 0, 1) ∧ decode cX11_share 71 = .ok (.aload_n 0, 1) := by decide +kernel
theorem e_X11_share_4 : decode cX11_share 72 = .ok (.getfield 43, 3) ∧ decode cX11_share 75 = .ok (.getfield 241, 3) ∧ decode cX11_share 78 = .ok (.iload_n 1, 1) ∧ decode cX11_share 79 = .ok (.aaload, 1) ∧ decode cX11_share 80 = .ok (.getfield 262, 3) ∧ decode cX11_share 83 = .ok (.i2l, 1) ∧ decode cX11_share 84 = .ok (.lload_n 2, 1) ∧ decode cX11_share 85 = .ok (.invokevirtual 454, 3) ∧ decode cX11_share 88 = .ok (.aload_n 0, 1) ∧ decode cX11_share 89 = .ok (.invokevirtual 120, 3) := by decide +kernel
theorem e_X11_share_5 : decode cX11_share 92 = .ok (.ireturn, 1) := by decide +kernel
abbrev E_X11_share_22 (G : Kg) (l1 l2 l4 : Int) (σ : Kmem) (Q : Int → Kmem → Prop) : Prop := Ex G WX M_X11_share 1 0 0 22 [(0, vA G 0), (1, vI l1), (2, vL l2), (4, vI l4)] [] σ Q
theorem S_X11_share {G : Kg} {σ : Kmem} {Q : Int → Kmem → Prop} {l1 : Int} {v : Int → Int}  (h : (wf v ∧ kco σ 5 v ∧ rI (l1)) ∧ (((sKt v (l1)) → E_X11_share_22 G l1 0 0 σ Q) ∧ (¬ (sKt v (l1)) → Q 0 (kup σ 0 0 1)))) : Run G WX M_X11_share 1 0 0 [vA G 0, vI l1] σ Q := by
  refine Run.of (by decide +kernel) (by show (2 : Nat) ≤ 5; decide) ?_
  show Ex G WX M_X11_share 1 0 0 0 [(0, vA G 0), (1, vI l1)] [] σ Q
  refine R_aload_n e_X11_share_0.1 0 rfl ?_
  refine R_getA 11 7 5 e_X11_share_0.2.1 f_X11_43 kx_0 (fun _ _ => rfl) rx_0_7 (by decide) ?_
  refine R_iload_n e_X11_share_0.2.2.1 1 rfl ?_
  obtain ⟨q3, h⟩ := h
  refine R_callV (mc := 0) (ms := 0) (mc' := 0) (ms' := 0) (M' := M_X0_hasKite) (d' := 0) (as := [vI l1]) (st := []) 0 1 e_X11_share_0.2.2.2.1 (kCVof m_X0_hasKite l_X11_238) rfl (by decide) (kC_self isC_5) (by decide) (by decide) rfl rfl (by show (0 : Nat) ≤ 8; decide) ?_
  refine Run.mono (P_X0_hasKite isC_5 q3) (fun rr ss e => ?_)
  obtain ⟨e1, e2⟩ := e
  refine R_eqs (st2 := [vI (kb (sKt v (l1)))]) (σ2 := σ) (by rw [e1]; rfl) e2 ?_
  refine R_if_ne 17 e_X11_share_0.2.2.2.2.1 (by decide) (kb_r _) (fun q => ?_) (fun q => ?_)
  · replace h := h.1 (kb_t q)
    refine R_lconst 0 e_X11_share_0.2.2.2.2.2.2.2.2.2 (by decide) ?_
    refine R_lstore_n (ls2 := [(2, vL 0), (0, vA G 0), (1, vI l1)]) e_X11_share_1.1 (by decide) rfl ?_
    refine R_iconst e_X11_share_1.2.1 ?_
    refine R_istore (ls2 := [(4, vI 0), (2, vL 0), (0, vA G 0), (1, vI l1)]) e_X11_share_1.2.2.1 (by decide) rfl ?_
    refine R_ls (ls2 := [(0, vA G 0), (1, vI l1), (2, vL 0), (4, vI 0)]) [2, 3, 1, 0] rfl ?_
    exact h
  · replace h := h.2 (kb_f q)
    refine R_aload_n e_X11_share_0.2.2.2.2.2.1 0 rfl ?_
    refine R_iconst e_X11_share_0.2.2.2.2.2.2.1 ?_
    refine R_callV (mc := 0) (ms := 0) (mc' := 0) (ms' := 0) (M' := M_X11_refuse) (d' := 0) (as := [vI 1]) (st := []) 11 1 e_X11_share_0.2.2.2.2.2.2.2.1 (kCVof m_X11_refuse l_X11_113) rfl (by decide) kx_0 (by decide) (by decide) rfl rfl (by show (0 : Nat) ≤ 8; decide) ?_
    refine S_X11_refuse ?_
    refine R_eqs (st2 := [vI 0]) (σ2 := (kup σ 0 0 1)) rfl rfl ?_
    exact R_zreturn e_X11_share_0.2.2.2.2.2.2.2.2.1 rfl (Or.inl rfl) h
theorem S_X11_share_22 {G : Kg} {σ : Kmem} {Q : Int → Kmem → Prop} {l1 l2 l4 : Int}  (h : (rI l4) ∧ (rI (σ 5 5)) ∧ ((σ 5 5 ≤ l4 → (rL l2) ∧ ((l2 ≠ 0 → (0 ≤ l1 ∧ l1 < 6) ∧ (rI (σ (5 + 6 + l1) 7)) ∧ Run G WX M_X11_tellFraction 0 0 0 [vA G 0, vL (σ (5 + 6 + l1) 7), vL l2] σ (fun r11 s12 => Q 1 (kup s12 0 0 0))) ∧ (l2 = 0 → Q 0 (kup σ 0 0 6)))) ∧ (l4 < σ 5 5 → (0 ≤ l4 ∧ l4 < 6) ∧ (rI (σ (5 + 6 + l4) 7)) ∧ E_X11_share_22 G l1 (l2 + (σ (5 + 6 + l4) 7)) (l4 + 1) σ Q))) : E_X11_share_22 G l1 l2 l4 σ Q := by
  refine R_iload e_X11_share_1.2.2.2.1 3 rfl ?_
  refine R_aload_n e_X11_share_1.2.2.2.2.1 0 rfl ?_
  refine R_getA 11 7 5 e_X11_share_1.2.2.2.2.2.1 f_X11_43 kx_0 (fun _ _ => rfl) rx_0_7 (by decide) ?_
  refine R_getI 0 5 5 e_X11_share_1.2.2.2.2.2.2.1 f_X11_173 (kC_self isC_5) (fun _ _ => rfl) rfl ?_
  obtain ⟨q6, h⟩ := h
  obtain ⟨q7, h⟩ := h
  refine R_icmp_ge 57 e_X11_share_1.2.2.2.2.2.2.2.1 (by decide) q6 q7 (fun q => ?_) (fun q => ?_)
  · replace h := h.1 q
    refine R_lload_n e_X11_share_3.1 2 rfl ?_
    refine R_lconst 0 e_X11_share_3.2.1 (by decide) ?_
    obtain ⟨q8, h⟩ := h
    refine R_lcmp e_X11_share_3.2.2.1 q8 (by decide) ?_
    refine R_if_ne 70 e_X11_share_3.2.2.2.1 (by decide) (kcmp_r _ _) (fun q => ?_) (fun q => ?_)
    · replace h := h.1 (kcmp_ne_t.mp q)
      refine R_aload_n e_X11_share_3.2.2.2.2.2.2.2.2.1 0 rfl ?_
      refine R_aload_n e_X11_share_3.2.2.2.2.2.2.2.2.2 0 rfl ?_
      refine R_getA 11 7 5 e_X11_share_4.1 f_X11_43 kx_0 (fun _ _ => rfl) rx_0_7 (by decide) ?_
      refine R_getA 0 10 (5 + 3) e_X11_share_4.2.1 f_X11_241 (kC_self isC_5) (fun _ _ => rfl) (kC_r10 isC_5) (kC_n3 isC_5) ?_
      refine R_iload_n e_X11_share_4.2.2.1 1 rfl ?_
      obtain ⟨q9, h⟩ := h
      refine R_aald 27 6 (5 + 6 + l1) e_X11_share_4.2.2.2.1 (by decide) (kC_kites isC_5) q9 (kC_kiteAt isC_5 q9) (kC_kiteN isC_5 q9) ?_
      refine R_getI 3 7 7 e_X11_share_4.2.2.2.2.1 f_X11_262 (kC_kite isC_5 q9) (fun _ _ => rfl) rfl ?_
      obtain ⟨q10, h⟩ := h
      refine R_i2l e_X11_share_4.2.2.2.2.2.1 q10 ?_
      refine R_lload_n e_X11_share_4.2.2.2.2.2.2.1 2 rfl ?_
      refine R_callV (mc := 0) (ms := 0) (mc' := 0) (ms' := 0) (M' := M_X11_tellFraction) (d' := 0) (as := [vL (σ (5 + 6 + l1) 7), vL l2]) (st := []) 11 2 e_X11_share_4.2.2.2.2.2.2.2.1 (kCVof m_X11_tellFraction l_X11_454) rfl (by decide) kx_0 (by decide) (by decide) rfl rfl (by show (0 : Nat) ≤ 8; decide) ?_
      refine Run.mono h (fun r11 s12 h => ?_)
      refine R_eqs (st2 := []) rfl rfl ?_
      refine R_aload_n e_X11_share_4.2.2.2.2.2.2.2.2.1 0 rfl ?_
      refine R_callV (mc := 0) (ms := 0) (mc' := 0) (ms' := 0) (M' := M_X11_grant) (d' := 0) (as := []) (st := []) 11 0 e_X11_share_4.2.2.2.2.2.2.2.2.2 (kCVof m_X11_grant l_X11_120) rfl (by decide) kx_0 (by decide) (by decide) rfl rfl (by show (0 : Nat) ≤ 8; decide) ?_
      refine S_X11_grant ?_
      refine R_eqs (st2 := [vI 1]) (σ2 := (kup s12 0 0 0)) rfl rfl ?_
      exact R_zreturn e_X11_share_5 rfl (Or.inr rfl) h
    · replace h := h.2 (kcmp_ne_f.mp q)
      refine R_aload_n e_X11_share_3.2.2.2.2.1 0 rfl ?_
      refine R_bipush e_X11_share_3.2.2.2.2.2.1 (by decide) ?_
      refine R_callV (mc := 0) (ms := 0) (mc' := 0) (ms' := 0) (M' := M_X11_refuse) (d' := 0) (as := [vI 6]) (st := []) 11 1 e_X11_share_3.2.2.2.2.2.2.1 (kCVof m_X11_refuse l_X11_113) rfl (by decide) kx_0 (by decide) (by decide) rfl rfl (by show (0 : Nat) ≤ 8; decide) ?_
      refine S_X11_refuse ?_
      refine R_eqs (st2 := [vI 0]) (σ2 := (kup σ 0 0 6)) rfl rfl ?_
      exact R_zreturn e_X11_share_3.2.2.2.2.2.2.2.1 rfl (Or.inl rfl) h
  · replace h := h.2 q
    refine R_lload_n e_X11_share_1.2.2.2.2.2.2.2.2.1 2 rfl ?_
    refine R_aload_n e_X11_share_1.2.2.2.2.2.2.2.2.2 0 rfl ?_
    refine R_getA 11 7 5 e_X11_share_2.1 f_X11_43 kx_0 (fun _ _ => rfl) rx_0_7 (by decide) ?_
    refine R_getA 0 10 (5 + 3) e_X11_share_2.2.1 f_X11_241 (kC_self isC_5) (fun _ _ => rfl) (kC_r10 isC_5) (kC_n3 isC_5) ?_
    refine R_iload e_X11_share_2.2.2.1 3 rfl ?_
    obtain ⟨q17, h⟩ := h
    refine R_aald 27 6 (5 + 6 + l4) e_X11_share_2.2.2.2.1 (by decide) (kC_kites isC_5) q17 (kC_kiteAt isC_5 q17) (kC_kiteN isC_5 q17) ?_
    refine R_getI 3 7 7 e_X11_share_2.2.2.2.2.1 f_X11_262 (kC_kite isC_5 q17) (fun _ _ => rfl) rfl ?_
    obtain ⟨q18, h⟩ := h
    refine R_i2l e_X11_share_2.2.2.2.2.2.1 q18 ?_
    refine R_ladd e_X11_share_2.2.2.2.2.2.2.1 ?_
    refine R_lstore_n (ls2 := [(2, vL (l2 + (σ (5 + 6 + l4) 7))), (0, vA G 0), (1, vI l1), (4, vI l4)]) e_X11_share_2.2.2.2.2.2.2.2.1 (by decide) rfl ?_
    refine R_iinc (ls2 := [(4, vI (l4 + 1)), (2, vL (l2 + (σ (5 + 6 + l4) 7))), (0, vA G 0), (1, vI l1)]) e_X11_share_2.2.2.2.2.2.2.2.2.1 3 rfl (by decide) rfl ?_
    refine R_goto 22 e_X11_share_2.2.2.2.2.2.2.2.2.2 (by decide) ?_
    refine R_ls (ls2 := [(0, vA G 0), (1, vI l1), (2, vL (l2 + (σ (5 + 6 + l4) 7))), (4, vI (l4 + 1))]) [2, 3, 1, 0] rfl ?_
    exact h
/-! KiteLand.shaded()Z -/
theorem e_X11_shaded_0 : decode cX11_shaded 0 = .ok (.aload_n 0, 1) ∧ decode cX11_shaded 1 = .ok (.getfield 43, 3) ∧ decode cX11_shaded 4 = .ok (.invokevirtual 346, 3) ∧ decode cX11_shaded 7 = .ok (.ifCond .ne 10, 3) ∧ decode cX11_shaded 10 = .ok (.aload_n 0, 1) ∧ decode cX11_shaded 11 = .ok (.bipush 6, 2) ∧ decode cX11_shaded 13 = .ok (.invokevirtual 113, 3) ∧ decode cX11_shaded 16 = .ok (.ireturn, 1) ∧ decode cX11_shaded 17 = .ok (.lconst 0, 1) ∧ decode cX11_shaded 18 = .ok (.lstore_n 1, 1) := by decide +kernel
theorem e_X11_shaded_1 : decode cX11_shaded 19 = .ok (.iconst 0, 1) ∧ decode cX11_shaded 20 = .ok (.istore_n 3, 1) ∧ decode cX11_shaded 21 = .ok (.iload_n 3, 1) ∧ decode cX11_shaded 22 = .ok (.bipush 12, 2) ∧ decode cX11_shaded 24 = .ok (.if_icmp .ge 32, 3) ∧ decode cX11_shaded 27 = .ok (.aload_n 0, 1) ∧ decode cX11_shaded 28 = .ok (.getfield 64, 3) ∧ decode cX11_shaded 31 = .ok (.aload_n 0, 1) ∧ decode cX11_shaded 32 = .ok (.getfield 43, 3) ∧ decode cX11_shaded 35 = .ok (.iload_n 3, 1) := by decide +kernel
theorem e_X11_shaded_2 : decode cX11_shaded 36 = .ok (.invokevirtual 308, 3) ∧ decode cX11_shaded 39 = .ok (.lload_n 1, 1) ∧ decode cX11_shaded 40 = .ok (.aload_n 0, 1) ∧ decode cX11_shaded 41 = .ok (.getfield 64, 3) ∧ decode cX11_shaded 44 = .ok (.invokevirtual 334, 3) ∧ decode cX11_shaded 47 = .ok (.i2l, 1) ∧ decode cX11_shaded 48 = .ok (.ladd, 1) ∧ decode cX11_shaded 49 = .ok (.lstore_n 1, 1) ∧ decode cX11_shaded 50 = .ok (.iinc 3 1, 3) ∧ decode cX11_shaded 53 = .ok (.goto (-32), 3) := by decide +kernel
theorem e_X11_shaded_3 : decode cX11_shaded 56 = .ok (.aload_n 0, 1) ∧ decode cX11_shaded 57 = .ok (.lload_n 1, 1) ∧ decode cX11_shaded 58 = .ok (.ldc2_w 458, 3) ∧ decode cX11_shaded 61 = .ok (.invokevirtual 454, 3) ∧ decode cX11_shaded 64 = .ok (.aload_n 0, 1) ∧ decode cX11_shaded 65 = .ok (.invokevirtual 120, 3) ∧ decode cX11_shaded 68 = .ok (.ireturn, 1) := by decide +kernel
abbrev E_X11_shaded_21 (G : Kg) (l1 l3 : Int) (σ : Kmem) (Q : Int → Kmem → Prop) : Prop := Ex G WX M_X11_shaded 4 0 0 21 [(0, vA G 0), (1, vL l1), (3, vI l3)] [] σ Q
theorem S_X11_shaded {G : Kg} {σ : Kmem} {Q : Int → Kmem → Prop} {v : Int → Int}  (h : (wf v ∧ kco σ 5 v) ∧ ((((0 : Int) < v 0) → E_X11_shaded_21 G 0 0 σ Q) ∧ (¬ ((0 : Int) < v 0) → Q 0 (kup σ 0 0 6)))) : Run G WX M_X11_shaded 4 0 0 [vA G 0] σ Q := by
  refine Run.of (by decide +kernel) (by show (1 : Nat) ≤ 4; decide) ?_
  show Ex G WX M_X11_shaded 4 0 0 0 [(0, vA G 0)] [] σ Q
  refine R_aload_n e_X11_shaded_0.1 0 rfl ?_
  refine R_getA 11 7 5 e_X11_shaded_0.2.1 f_X11_43 kx_0 (fun _ _ => rfl) rx_0_7 (by decide) ?_
  obtain ⟨q3, h⟩ := h
  refine R_callV (mc := 0) (ms := 0) (mc' := 0) (ms' := 0) (M' := M_X0_hasLand) (d' := 0) (as := []) (st := []) 0 0 e_X11_shaded_0.2.2.1 (kCVof m_X0_hasLand l_X11_346) rfl (by decide) (kC_self isC_5) (by decide) (by decide) rfl rfl (by show (0 : Nat) ≤ 8; decide) ?_
  refine Run.mono (P_X0_hasLand isC_5 q3) (fun rr ss e => ?_)
  obtain ⟨e1, e2⟩ := e
  refine R_eqs (st2 := [vI (kb ((0 : Int) < v 0))]) (σ2 := σ) (by rw [e1]; rfl) e2 ?_
  refine R_if_ne 17 e_X11_shaded_0.2.2.2.1 (by decide) (kb_r _) (fun q => ?_) (fun q => ?_)
  · replace h := h.1 (kb_t q)
    refine R_lconst 0 e_X11_shaded_0.2.2.2.2.2.2.2.2.1 (by decide) ?_
    refine R_lstore_n (ls2 := [(1, vL 0), (0, vA G 0)]) e_X11_shaded_0.2.2.2.2.2.2.2.2.2 (by decide) rfl ?_
    refine R_iconst e_X11_shaded_1.1 ?_
    refine R_istore_n (ls2 := [(3, vI 0), (1, vL 0), (0, vA G 0)]) e_X11_shaded_1.2.1 (by decide) rfl ?_
    refine R_ls (ls2 := [(0, vA G 0), (1, vL 0), (3, vI 0)]) [2, 1, 0] rfl ?_
    exact h
  · replace h := h.2 (kb_f q)
    refine R_aload_n e_X11_shaded_0.2.2.2.2.1 0 rfl ?_
    refine R_bipush e_X11_shaded_0.2.2.2.2.2.1 (by decide) ?_
    refine R_callV (mc := 0) (ms := 0) (mc' := 0) (ms' := 0) (M' := M_X11_refuse) (d' := 0) (as := [vI 6]) (st := []) 11 1 e_X11_shaded_0.2.2.2.2.2.2.1 (kCVof m_X11_refuse l_X11_113) rfl (by decide) kx_0 (by decide) (by decide) rfl rfl (by show (0 : Nat) ≤ 8; decide) ?_
    refine S_X11_refuse ?_
    refine R_eqs (st2 := [vI 0]) (σ2 := (kup σ 0 0 6)) rfl rfl ?_
    exact R_zreturn e_X11_shaded_0.2.2.2.2.2.2.2.1 rfl (Or.inl rfl) h
theorem S_X11_shaded_21 {G : Kg} {σ : Kmem} {Q : Int → Kmem → Prop} {l1 l3 : Int}  (h : (rI l3) ∧ ((12 ≤ l3 → Run G WX M_X11_tellFraction 0 0 0 [vA G 0, vL l1, vL 12] σ (fun r7 s8 => Q 1 (kup s8 0 0 0))) ∧ (l3 < 12 → Run G WX M_X8_look 3 0 0 [vA G 58, vA G 5, vI l3] σ (fun r11 s12 => Run G WX M_X8_ownedFields 0 0 0 [vA G 58] s12 (fun r13 s14 => (rI r13) ∧ E_X11_shaded_21 G (l1 + r13) (l3 + 1) s14 Q))))) : E_X11_shaded_21 G l1 l3 σ Q := by
  refine R_iload_n e_X11_shaded_1.2.2.1 2 rfl ?_
  refine R_bipush e_X11_shaded_1.2.2.2.1 (by decide) ?_
  obtain ⟨q6, h⟩ := h
  refine R_icmp_ge 56 e_X11_shaded_1.2.2.2.2.1 (by decide) q6 (by decide) (fun q => ?_) (fun q => ?_)
  · replace h := h.1 q
    refine R_aload_n e_X11_shaded_3.1 0 rfl ?_
    refine R_lload_n e_X11_shaded_3.2.1 1 rfl ?_
    refine R_ldc2 (12) k_X11_458 e_X11_shaded_3.2.2.1 ?_
    refine R_callV (mc := 0) (ms := 0) (mc' := 0) (ms' := 0) (M' := M_X11_tellFraction) (d' := 0) (as := [vL l1, vL 12]) (st := []) 11 2 e_X11_shaded_3.2.2.2.1 (kCVof m_X11_tellFraction l_X11_454) rfl (by decide) kx_0 (by decide) (by decide) rfl rfl (by show (0 : Nat) ≤ 8; decide) ?_
    refine Run.mono h (fun r7 s8 h => ?_)
    refine R_eqs (st2 := []) rfl rfl ?_
    refine R_aload_n e_X11_shaded_3.2.2.2.2.1 0 rfl ?_
    refine R_callV (mc := 0) (ms := 0) (mc' := 0) (ms' := 0) (M' := M_X11_grant) (d' := 0) (as := []) (st := []) 11 0 e_X11_shaded_3.2.2.2.2.2.1 (kCVof m_X11_grant l_X11_120) rfl (by decide) kx_0 (by decide) (by decide) rfl rfl (by show (0 : Nat) ≤ 8; decide) ?_
    refine S_X11_grant ?_
    refine R_eqs (st2 := [vI 1]) (σ2 := (kup s8 0 0 0)) rfl rfl ?_
    exact R_zreturn e_X11_shaded_3.2.2.2.2.2.2 rfl (Or.inr rfl) h
  · replace h := h.2 q
    refine R_aload_n e_X11_shaded_1.2.2.2.2.2.1 0 rfl ?_
    refine R_getA 11 10 58 e_X11_shaded_1.2.2.2.2.2.2.1 f_X11_64 kx_0 (fun _ _ => rfl) rx_0_10 (by decide) ?_
    refine R_aload_n e_X11_shaded_1.2.2.2.2.2.2.2.1 0 rfl ?_
    refine R_getA 11 7 5 e_X11_shaded_1.2.2.2.2.2.2.2.2.1 f_X11_43 kx_0 (fun _ _ => rfl) rx_0_7 (by decide) ?_
    refine R_iload_n e_X11_shaded_1.2.2.2.2.2.2.2.2.2 2 rfl ?_
    refine R_callV (mc := 0) (ms := 0) (mc' := 0) (ms' := 0) (M' := M_X8_look) (d' := 3) (as := [vA G 5, vI l3]) (st := []) 8 2 e_X11_shaded_2.1 (kCVof m_X8_look l_X11_308) rfl (by decide) kx_58 (by decide) (by decide) rfl rfl (by show (0 : Nat) ≤ 8; decide) ?_
    refine Run.mono h (fun r11 s12 h => ?_)
    refine R_eqs (st2 := []) rfl rfl ?_
    refine R_lload_n e_X11_shaded_2.2.1 1 rfl ?_
    refine R_aload_n e_X11_shaded_2.2.2.1 0 rfl ?_
    refine R_getA 11 10 58 e_X11_shaded_2.2.2.2.1 f_X11_64 kx_0 (fun _ _ => rfl) rx_0_10 (by decide) ?_
    refine R_callV (mc := 0) (ms := 0) (mc' := 0) (ms' := 0) (M' := M_X8_ownedFields) (d' := 0) (as := []) (st := [vL l1]) 8 0 e_X11_shaded_2.2.2.2.2.1 (kCVof m_X8_ownedFields l_X11_334) rfl (by decide) kx_58 (by decide) (by decide) rfl rfl (by show (2 : Nat) ≤ 8; decide) ?_
    refine Run.mono h (fun r13 s14 h => ?_)
    refine R_eqs (st2 := [vI r13, vL l1]) rfl rfl ?_
    obtain ⟨q15, h⟩ := h
    refine R_i2l e_X11_shaded_2.2.2.2.2.2.1 q15 ?_
    refine R_ladd e_X11_shaded_2.2.2.2.2.2.2.1 ?_
    refine R_lstore_n (ls2 := [(1, vL (l1 + r13)), (0, vA G 0), (3, vI l3)]) e_X11_shaded_2.2.2.2.2.2.2.2.1 (by decide) rfl ?_
    refine R_iinc (ls2 := [(3, vI (l3 + 1)), (1, vL (l1 + r13)), (0, vA G 0)]) e_X11_shaded_2.2.2.2.2.2.2.2.2.1 2 rfl (by decide) rfl ?_
    refine R_goto 21 e_X11_shaded_2.2.2.2.2.2.2.2.2.2 (by decide) ?_
    refine R_ls (ls2 := [(0, vA G 0), (1, vL (l1 + r13)), (3, vI (l3 + 1))]) [2, 1, 0] rfl ?_
    exact h
/-! KiteLand.live(I)I -/
theorem e_X11_live_0 : decode cX11_live 0 = .ok (.iload_n 1, 1) ∧ decode cX11_live 1 = .ok (.ifCond .lt 10, 3) ∧ decode cX11_live 4 = .ok (.iload_n 1, 1) ∧ decode cX11_live 5 = .ok (.sipush 9999, 3) ∧ decode cX11_live 8 = .ok (.if_icmp .le 9, 3) ∧ decode cX11_live 11 = .ok (.aload_n 0, 1) ∧ decode cX11_live 12 = .ok (.iconst 1, 1) ∧ decode cX11_live 13 = .ok (.invokevirtual 132, 3) ∧ decode cX11_live 16 = .ok (.ireturn, 1) ∧ decode cX11_live 17 = .ok (.aload_n 0, 1) := by decide +kernel
theorem e_X11_live_1 : decode cX11_live 18 = .ok (.getfield 71, 3) ∧ decode cX11_live 21 = .ok (.getfield 460, 3) ∧ decode cX11_live 24 = .ok (.ifCond .ne 10, 3) ∧ decode cX11_live 27 = .ok (.aload_n 0, 1) ∧ decode cX11_live 28 = .ok (.bipush 6, 2) ∧ decode cX11_live 30 = .ok (.invokevirtual 132, 3) ∧ decode cX11_live 33 = .ok (.ireturn, 1) ∧ decode cX11_live 34 = .ok (.aload_n 0, 1) ∧ decode cX11_live 35 = .ok (.getfield 81, 3) ∧ decode cX11_live 38 = .ok (.aload_n 0, 1) := by decide +kernel
theorem e_X11_live_2 : decode cX11_live 39 = .ok (.getfield 71, 3) ∧ decode cX11_live 42 = .ok (.aload_n 0, 1) ∧ decode cX11_live 43 = .ok (.getfield 43, 3) ∧ decode cX11_live 46 = .ok (.aload_n 0, 1) ∧ decode cX11_live 47 = .ok (.getfield 64, 3) ∧ decode cX11_live 50 = .ok (.iload_n 1, 1) ∧ decode cX11_live 51 = .ok (.invokevirtual 461, 3) ∧ decode cX11_live 54 = .ok (.aload_n 0, 1) ∧ decode cX11_live 55 = .ok (.aload_n 0, 1) ∧ decode cX11_live 56 = .ok (.getfield 81, 3) := by decide +kernel
theorem e_X11_live_3 : decode cX11_live 59 = .ok (.getfield 465, 3) ∧ decode cX11_live 62 = .ok (.invokevirtual 176, 3) ∧ decode cX11_live 65 = .ok (.ireturn, 1) := by decide +kernel
theorem S_X11_live {G : Kg} {σ : Kmem} {Q : Int → Kmem → Prop} {l1 : Int}  (h : (rI l1) ∧ ((l1 < 0 → Q (-1) (kup σ 0 0 1)) ∧ (0 ≤ l1 → ((l1 ≤ 9999 → (rI (σ 64 0)) ∧ ((σ 64 0 ≠ 0 → Run G WX M_X4_run 6 0 0 [vA G 78, vA G 64, vA G 5, vA G 58, vI l1] σ (fun r5 s6 => Q (s6 78 1) (kup s6 0 0 0))) ∧ (σ 64 0 = 0 → Q (-1) (kup σ 0 0 6)))) ∧ (9999 < l1 → Q (-1) (kup σ 0 0 1)))))) : Run G WX M_X11_live 7 0 0 [vA G 0, vI l1] σ Q := by
  refine Run.of (by decide +kernel) (by show (2 : Nat) ≤ 2; decide) ?_
  show Ex G WX M_X11_live 7 0 0 0 [(0, vA G 0), (1, vI l1)] [] σ Q
  refine R_iload_n e_X11_live_0.1 1 rfl ?_
  obtain ⟨q1, h⟩ := h
  refine R_if_lt 11 e_X11_live_0.2.1 (by decide) q1  (fun q => ?_) (fun q => ?_)
  · replace h := h.1 q
    refine R_aload_n e_X11_live_0.2.2.2.2.2.1 0 rfl ?_
    refine R_iconst e_X11_live_0.2.2.2.2.2.2.1 ?_
    refine R_callV (mc := 0) (ms := 0) (mc' := 0) (ms' := 0) (M' := M_X11_deny) (d' := 0) (as := [vI 1]) (st := []) 11 1 e_X11_live_0.2.2.2.2.2.2.2.1 (kCVof m_X11_deny l_X11_132) rfl (by decide) kx_0 (by decide) (by decide) rfl rfl (by show (0 : Nat) ≤ 8; decide) ?_
    refine S_X11_deny ?_
    refine R_eqs (st2 := [vI (-1)]) (σ2 := (kup σ 0 0 1)) rfl rfl ?_
    exact R_ireturn e_X11_live_0.2.2.2.2.2.2.2.2.1 rfl h
  · replace h := h.2 q
    refine R_iload_n e_X11_live_0.2.2.1 1 rfl ?_
    refine R_sipush e_X11_live_0.2.2.2.1 (by decide) ?_
    refine R_icmp_le 17 e_X11_live_0.2.2.2.2.1 (by decide) q1 (by decide) (fun q => ?_) (fun q => ?_)
    · replace h := h.1 q
      refine R_aload_n e_X11_live_0.2.2.2.2.2.2.2.2.2 0 rfl ?_
      refine R_getA 11 11 64 e_X11_live_1.1 f_X11_71 kx_0 (fun _ _ => rfl) rx_0_11 (by decide) ?_
      refine R_getI 7 0 0 e_X11_live_1.2.1 f_X11_460 (kS_self isS_64) (fun _ _ => rfl) rfl ?_
      obtain ⟨q4, h⟩ := h
      refine R_if_ne 34 e_X11_live_1.2.2.1 (by decide) q4  (fun q => ?_) (fun q => ?_)
      · replace h := h.1 q
        refine R_aload_n e_X11_live_1.2.2.2.2.2.2.2.1 0 rfl ?_
        refine R_getA 11 13 78 e_X11_live_1.2.2.2.2.2.2.2.2.1 f_X11_81 kx_0 (fun _ _ => rfl) rx_0_13 (by decide) ?_
        refine R_aload_n e_X11_live_1.2.2.2.2.2.2.2.2.2 0 rfl ?_
        refine R_getA 11 11 64 e_X11_live_2.1 f_X11_71 kx_0 (fun _ _ => rfl) rx_0_11 (by decide) ?_
        refine R_aload_n e_X11_live_2.2.1 0 rfl ?_
        refine R_getA 11 7 5 e_X11_live_2.2.2.1 f_X11_43 kx_0 (fun _ _ => rfl) rx_0_7 (by decide) ?_
        refine R_aload_n e_X11_live_2.2.2.2.1 0 rfl ?_
        refine R_getA 11 10 58 e_X11_live_2.2.2.2.2.1 f_X11_64 kx_0 (fun _ _ => rfl) rx_0_10 (by decide) ?_
        refine R_iload_n e_X11_live_2.2.2.2.2.2.1 1 rfl ?_
        refine R_callV (mc := 0) (ms := 0) (mc' := 0) (ms' := 0) (M' := M_X4_run) (d' := 6) (as := [vA G 64, vA G 5, vA G 58, vI l1]) (st := []) 4 4 e_X11_live_2.2.2.2.2.2.2.1 (kCVof m_X4_run l_X11_461) rfl (by decide) (kL_self isLf_78) (by decide) (by decide) rfl rfl (by show (0 : Nat) ≤ 8; decide) ?_
        refine Run.mono h (fun r5 s6 h => ?_)
        refine R_eqs (st2 := []) rfl rfl ?_
        refine R_aload_n e_X11_live_2.2.2.2.2.2.2.2.1 0 rfl ?_
        refine R_aload_n e_X11_live_2.2.2.2.2.2.2.2.2.1 0 rfl ?_
        refine R_getA 11 13 78 e_X11_live_2.2.2.2.2.2.2.2.2.2 f_X11_81 kx_0 (fun _ _ => rfl) rx_0_13 (by decide) ?_
        refine R_getI 4 1 1 e_X11_live_3.1 f_X11_465 (kL_self isLf_78) (fun _ _ => rfl) rfl ?_
        refine R_callV (mc := 0) (ms := 0) (mc' := 0) (ms' := 0) (M' := M_X11_give) (d' := 0) (as := [vI (s6 78 1)]) (st := []) 11 1 e_X11_live_3.2.1 (kCVof m_X11_give l_X11_176) rfl (by decide) kx_0 (by decide) (by decide) rfl rfl (by show (0 : Nat) ≤ 8; decide) ?_
        refine S_X11_give ?_
        refine R_eqs (st2 := [vI (s6 78 1)]) (σ2 := (kup s6 0 0 0)) rfl rfl ?_
        exact R_ireturn e_X11_live_3.2.2 rfl h
      · replace h := h.2 q
        refine R_aload_n e_X11_live_1.2.2.2.1 0 rfl ?_
        refine R_bipush e_X11_live_1.2.2.2.2.1 (by decide) ?_
        refine R_callV (mc := 0) (ms := 0) (mc' := 0) (ms' := 0) (M' := M_X11_deny) (d' := 0) (as := [vI 6]) (st := []) 11 1 e_X11_live_1.2.2.2.2.2.1 (kCVof m_X11_deny l_X11_132) rfl (by decide) kx_0 (by decide) (by decide) rfl rfl (by show (0 : Nat) ≤ 8; decide) ?_
        refine S_X11_deny ?_
        refine R_eqs (st2 := [vI (-1)]) (σ2 := (kup σ 0 0 6)) rfl rfl ?_
        exact R_ireturn e_X11_live_1.2.2.2.2.2.2.1 rfl h
    · replace h := h.2 q
      refine R_aload_n e_X11_live_0.2.2.2.2.2.1 0 rfl ?_
      refine R_iconst e_X11_live_0.2.2.2.2.2.2.1 ?_
      refine R_callV (mc := 0) (ms := 0) (mc' := 0) (ms' := 0) (M' := M_X11_deny) (d' := 0) (as := [vI 1]) (st := []) 11 1 e_X11_live_0.2.2.2.2.2.2.2.1 (kCVof m_X11_deny l_X11_132) rfl (by decide) kx_0 (by decide) (by decide) rfl rfl (by show (0 : Nat) ≤ 8; decide) ?_
      refine S_X11_deny ?_
      refine R_eqs (st2 := [vI (-1)]) (σ2 := (kup σ 0 0 1)) rfl rfl ?_
      exact R_ireturn e_X11_live_0.2.2.2.2.2.2.2.2.1 rfl h
/-! KiteLand.lived(I)I -/
theorem e_X11_lived_0 : decode cX11_lived 0 = .ok (.iload_n 1, 1) ∧ decode cX11_lived 1 = .ok (.ifCond .lt 8, 3) ∧ decode cX11_lived 4 = .ok (.iload_n 1, 1) ∧ decode cX11_lived 5 = .ok (.iconst 4, 1) ∧ decode cX11_lived 6 = .ok (.if_icmp .le 9, 3) ∧ decode cX11_lived 9 = .ok (.aload_n 0, 1) ∧ decode cX11_lived 10 = .ok (.iconst 1, 1) ∧ decode cX11_lived 11 = .ok (.invokevirtual 132, 3) ∧ decode cX11_lived 14 = .ok (.ireturn, 1) ∧ decode cX11_lived 15 = .ok (.aload_n 0, 1) := by decide +kernel
theorem e_X11_lived_1 : decode cX11_lived 16 = .ok (.getfield 81, 3) ∧ decode cX11_lived 19 = .ok (.getfield 466, 3) ∧ decode cX11_lived 22 = .ok (.ifCond .ne 10, 3) ∧ decode cX11_lived 25 = .ok (.aload_n 0, 1) ∧ decode cX11_lived 26 = .ok (.bipush 6, 2) ∧ decode cX11_lived 28 = .ok (.invokevirtual 132, 3) ∧ decode cX11_lived 31 = .ok (.ireturn, 1) ∧ decode cX11_lived 32 = .ok (.iload_n 1, 1) ∧ decode cX11_lived 33 = .ok (.tableswitch 79 0 3 #[31, 43, 55, 67], 31) ∧ decode cX11_lived 64 = .ok (.aload_n 0, 1) := by decide +kernel
theorem e_X11_lived_2 : decode cX11_lived 65 = .ok (.aload_n 0, 1) ∧ decode cX11_lived 66 = .ok (.getfield 81, 3) ∧ decode cX11_lived 69 = .ok (.getfield 467, 3) ∧ decode cX11_lived 72 = .ok (.invokevirtual 176, 3) ∧ decode cX11_lived 75 = .ok (.ireturn, 1) ∧ decode cX11_lived 76 = .ok (.aload_n 0, 1) ∧ decode cX11_lived 77 = .ok (.aload_n 0, 1) ∧ decode cX11_lived 78 = .ok (.getfield 81, 3) ∧ decode cX11_lived 81 = .ok (.getfield 470, 3) ∧ decode cX11_lived 84 = .ok (.invokevirtual 176, 3) := by decide +kernel
theorem e_X11_lived_3 : decode cX11_lived 87 = .ok (.ireturn, 1) ∧ decode cX11_lived 88 = .ok (.aload_n 0, 1) ∧ decode cX11_lived 89 = .ok (.aload_n 0, 1) ∧ decode cX11_lived 90 = .ok (.getfield 81, 3) ∧ decode cX11_lived 93 = .ok (.getfield 473, 3) ∧ decode cX11_lived 96 = .ok (.invokevirtual 176, 3) ∧ decode cX11_lived 99 = .ok (.ireturn, 1) ∧ decode cX11_lived 100 = .ok (.aload_n 0, 1) ∧ decode cX11_lived 101 = .ok (.aload_n 0, 1) ∧ decode cX11_lived 102 = .ok (.getfield 81, 3) := by decide +kernel
theorem e_X11_lived_4 : decode cX11_lived 105 = .ok (.getfield 474, 3) ∧ decode cX11_lived 108 = .ok (.invokevirtual 176, 3) ∧ decode cX11_lived 111 = .ok (.ireturn, 1) ∧ decode cX11_lived 112 = .ok (.aload_n 0, 1) ∧ decode cX11_lived 113 = .ok (.aload_n 0, 1) ∧ decode cX11_lived 114 = .ok (.getfield 81, 3) ∧ decode cX11_lived 117 = .ok (.getfield 477, 3) ∧ decode cX11_lived 120 = .ok (.ifCond .eq 7, 3) ∧ decode cX11_lived 123 = .ok (.iconst 1, 1) ∧ decode cX11_lived 124 = .ok (.goto 4, 3) := by decide +kernel
theorem e_X11_lived_5 : decode cX11_lived 127 = .ok (.iconst 0, 1) ∧ decode cX11_lived 128 = .ok (.invokevirtual 176, 3) ∧ decode cX11_lived 131 = .ok (.ireturn, 1) := by decide +kernel
theorem S_X11_lived {G : Kg} {σ : Kmem} {Q : Int → Kmem → Prop} {l1 : Int}  (h : (rI l1) ∧ ((l1 < 0 → Q (-1) (kup σ 0 0 1)) ∧ (0 ≤ l1 → ((l1 ≤ 4 → (rI (σ 78 0)) ∧ ((σ 78 0 ≠ 0 → ((l1 = 0 → Q (σ 78 2) (kup σ 0 0 0)) ∧ (l1 = 1 → Q (σ 78 3) (kup σ 0 0 0)) ∧ (l1 = 2 → Q (σ 78 4) (kup σ 0 0 0)) ∧ (l1 = 3 → Q (σ 78 5) (kup σ 0 0 0)) ∧ (l1 < 0 ∨ 3 < l1 → (rI (σ 78 6)) ∧ ((σ 78 6 = 0 → Q 0 (kup σ 0 0 0)) ∧ (σ 78 6 ≠ 0 → Q 1 (kup σ 0 0 0)))))) ∧ (σ 78 0 = 0 → Q (-1) (kup σ 0 0 6)))) ∧ (4 < l1 → Q (-1) (kup σ 0 0 1)))))) : Run G WX M_X11_lived 1 0 0 [vA G 0, vI l1] σ Q := by
  refine Run.of (by decide +kernel) (by show (2 : Nat) ≤ 2; decide) ?_
  show Ex G WX M_X11_lived 1 0 0 0 [(0, vA G 0), (1, vI l1)] [] σ Q
  refine R_iload_n e_X11_lived_0.1 1 rfl ?_
  obtain ⟨q1, h⟩ := h
  refine R_if_lt 9 e_X11_lived_0.2.1 (by decide) q1  (fun q => ?_) (fun q => ?_)
  · replace h := h.1 q
    refine R_aload_n e_X11_lived_0.2.2.2.2.2.1 0 rfl ?_
    refine R_iconst e_X11_lived_0.2.2.2.2.2.2.1 ?_
    refine R_callV (mc := 0) (ms := 0) (mc' := 0) (ms' := 0) (M' := M_X11_deny) (d' := 0) (as := [vI 1]) (st := []) 11 1 e_X11_lived_0.2.2.2.2.2.2.2.1 (kCVof m_X11_deny l_X11_132) rfl (by decide) kx_0 (by decide) (by decide) rfl rfl (by show (0 : Nat) ≤ 8; decide) ?_
    refine S_X11_deny ?_
    refine R_eqs (st2 := [vI (-1)]) (σ2 := (kup σ 0 0 1)) rfl rfl ?_
    exact R_ireturn e_X11_lived_0.2.2.2.2.2.2.2.2.1 rfl h
  · replace h := h.2 q
    refine R_iload_n e_X11_lived_0.2.2.1 1 rfl ?_
    refine R_iconst e_X11_lived_0.2.2.2.1 ?_
    refine R_icmp_le 15 e_X11_lived_0.2.2.2.2.1 (by decide) q1 (by decide) (fun q => ?_) (fun q => ?_)
    · replace h := h.1 q
      refine R_aload_n e_X11_lived_0.2.2.2.2.2.2.2.2.2 0 rfl ?_
      refine R_getA 11 13 78 e_X11_lived_1.1 f_X11_81 kx_0 (fun _ _ => rfl) rx_0_13 (by decide) ?_
      refine R_getI 4 0 0 e_X11_lived_1.2.1 f_X11_466 (kL_self isLf_78) (fun _ _ => rfl) rfl ?_
      obtain ⟨q4, h⟩ := h
      refine R_if_ne 32 e_X11_lived_1.2.2.1 (by decide) q4  (fun q => ?_) (fun q => ?_)
      · replace h := h.1 q
        refine R_iload_n e_X11_lived_1.2.2.2.2.2.2.2.1 1 rfl ?_
        by_cases t0 : l1 = 0
        · refine R_tableIn 64 e_X11_lived_1.2.2.2.2.2.2.2.2.1 q1 (by omega) (by omega) (off := 31) (by rw [t0]; rfl) (by decide) ?_
          replace h := h.1 t0
          refine R_aload_n e_X11_lived_1.2.2.2.2.2.2.2.2.2 0 rfl ?_
          refine R_aload_n e_X11_lived_2.1 0 rfl ?_
          refine R_getA 11 13 78 e_X11_lived_2.2.1 f_X11_81 kx_0 (fun _ _ => rfl) rx_0_13 (by decide) ?_
          refine R_getI 4 2 2 e_X11_lived_2.2.2.1 f_X11_467 (kL_self isLf_78) (fun _ _ => rfl) rfl ?_
          refine R_callV (mc := 0) (ms := 0) (mc' := 0) (ms' := 0) (M' := M_X11_give) (d' := 0) (as := [vI (σ 78 2)]) (st := []) 11 1 e_X11_lived_2.2.2.2.1 (kCVof m_X11_give l_X11_176) rfl (by decide) kx_0 (by decide) (by decide) rfl rfl (by show (0 : Nat) ≤ 8; decide) ?_
          refine S_X11_give ?_
          refine R_eqs (st2 := [vI (σ 78 2)]) (σ2 := (kup σ 0 0 0)) rfl rfl ?_
          exact R_ireturn e_X11_lived_2.2.2.2.2.1 rfl h
        by_cases t1 : l1 = 1
        · refine R_tableIn 76 e_X11_lived_1.2.2.2.2.2.2.2.2.1 q1 (by omega) (by omega) (off := 43) (by rw [t1]; rfl) (by decide) ?_
          replace h := h.2.1 t1
          refine R_aload_n e_X11_lived_2.2.2.2.2.2.1 0 rfl ?_
          refine R_aload_n e_X11_lived_2.2.2.2.2.2.2.1 0 rfl ?_
          refine R_getA 11 13 78 e_X11_lived_2.2.2.2.2.2.2.2.1 f_X11_81 kx_0 (fun _ _ => rfl) rx_0_13 (by decide) ?_
          refine R_getI 4 3 3 e_X11_lived_2.2.2.2.2.2.2.2.2.1 f_X11_470 (kL_self isLf_78) (fun _ _ => rfl) rfl ?_
          refine R_callV (mc := 0) (ms := 0) (mc' := 0) (ms' := 0) (M' := M_X11_give) (d' := 0) (as := [vI (σ 78 3)]) (st := []) 11 1 e_X11_lived_2.2.2.2.2.2.2.2.2.2 (kCVof m_X11_give l_X11_176) rfl (by decide) kx_0 (by decide) (by decide) rfl rfl (by show (0 : Nat) ≤ 8; decide) ?_
          refine S_X11_give ?_
          refine R_eqs (st2 := [vI (σ 78 3)]) (σ2 := (kup σ 0 0 0)) rfl rfl ?_
          exact R_ireturn e_X11_lived_3.1 rfl h
        by_cases t2 : l1 = 2
        · refine R_tableIn 88 e_X11_lived_1.2.2.2.2.2.2.2.2.1 q1 (by omega) (by omega) (off := 55) (by rw [t2]; rfl) (by decide) ?_
          replace h := h.2.2.1 t2
          refine R_aload_n e_X11_lived_3.2.1 0 rfl ?_
          refine R_aload_n e_X11_lived_3.2.2.1 0 rfl ?_
          refine R_getA 11 13 78 e_X11_lived_3.2.2.2.1 f_X11_81 kx_0 (fun _ _ => rfl) rx_0_13 (by decide) ?_
          refine R_getI 4 4 4 e_X11_lived_3.2.2.2.2.1 f_X11_473 (kL_self isLf_78) (fun _ _ => rfl) rfl ?_
          refine R_callV (mc := 0) (ms := 0) (mc' := 0) (ms' := 0) (M' := M_X11_give) (d' := 0) (as := [vI (σ 78 4)]) (st := []) 11 1 e_X11_lived_3.2.2.2.2.2.1 (kCVof m_X11_give l_X11_176) rfl (by decide) kx_0 (by decide) (by decide) rfl rfl (by show (0 : Nat) ≤ 8; decide) ?_
          refine S_X11_give ?_
          refine R_eqs (st2 := [vI (σ 78 4)]) (σ2 := (kup σ 0 0 0)) rfl rfl ?_
          exact R_ireturn e_X11_lived_3.2.2.2.2.2.2.1 rfl h
        by_cases t3 : l1 = 3
        · refine R_tableIn 100 e_X11_lived_1.2.2.2.2.2.2.2.2.1 q1 (by omega) (by omega) (off := 67) (by rw [t3]; rfl) (by decide) ?_
          replace h := h.2.2.2.1 t3
          refine R_aload_n e_X11_lived_3.2.2.2.2.2.2.2.1 0 rfl ?_
          refine R_aload_n e_X11_lived_3.2.2.2.2.2.2.2.2.1 0 rfl ?_
          refine R_getA 11 13 78 e_X11_lived_3.2.2.2.2.2.2.2.2.2 f_X11_81 kx_0 (fun _ _ => rfl) rx_0_13 (by decide) ?_
          refine R_getI 4 5 5 e_X11_lived_4.1 f_X11_474 (kL_self isLf_78) (fun _ _ => rfl) rfl ?_
          refine R_callV (mc := 0) (ms := 0) (mc' := 0) (ms' := 0) (M' := M_X11_give) (d' := 0) (as := [vI (σ 78 5)]) (st := []) 11 1 e_X11_lived_4.2.1 (kCVof m_X11_give l_X11_176) rfl (by decide) kx_0 (by decide) (by decide) rfl rfl (by show (0 : Nat) ≤ 8; decide) ?_
          refine S_X11_give ?_
          refine R_eqs (st2 := [vI (σ 78 5)]) (σ2 := (kup σ 0 0 0)) rfl rfl ?_
          exact R_ireturn e_X11_lived_4.2.2.1 rfl h
        refine R_tableOut 112 e_X11_lived_1.2.2.2.2.2.2.2.2.1 q1 (by omega) (by decide) ?_
        replace h := h.2.2.2.2 (by omega)
        refine R_aload_n e_X11_lived_4.2.2.2.1 0 rfl ?_
        refine R_aload_n e_X11_lived_4.2.2.2.2.1 0 rfl ?_
        refine R_getA 11 13 78 e_X11_lived_4.2.2.2.2.2.1 f_X11_81 kx_0 (fun _ _ => rfl) rx_0_13 (by decide) ?_
        refine R_getI 4 6 6 e_X11_lived_4.2.2.2.2.2.2.1 f_X11_477 (kL_self isLf_78) (fun _ _ => rfl) rfl ?_
        obtain ⟨q13, h⟩ := h
        refine R_if_eq 127 e_X11_lived_4.2.2.2.2.2.2.2.1 (by decide) q13  (fun q => ?_) (fun q => ?_)
        · replace h := h.1 q
          refine R_iconst e_X11_lived_5.1 ?_
          refine R_callV (mc := 0) (ms := 0) (mc' := 0) (ms' := 0) (M' := M_X11_give) (d' := 0) (as := [vI 0]) (st := []) 11 1 e_X11_lived_5.2.1 (kCVof m_X11_give l_X11_176) rfl (by decide) kx_0 (by decide) (by decide) rfl rfl (by show (0 : Nat) ≤ 8; decide) ?_
          refine S_X11_give ?_
          refine R_eqs (st2 := [vI 0]) (σ2 := (kup σ 0 0 0)) rfl rfl ?_
          exact R_ireturn e_X11_lived_5.2.2 rfl h
        · replace h := h.2 q
          refine R_iconst e_X11_lived_4.2.2.2.2.2.2.2.2.1 ?_
          refine R_goto 128 e_X11_lived_4.2.2.2.2.2.2.2.2.2 (by decide) ?_
          refine R_callV (mc := 0) (ms := 0) (mc' := 0) (ms' := 0) (M' := M_X11_give) (d' := 0) (as := [vI 1]) (st := []) 11 1 e_X11_lived_5.2.1 (kCVof m_X11_give l_X11_176) rfl (by decide) kx_0 (by decide) (by decide) rfl rfl (by show (0 : Nat) ≤ 8; decide) ?_
          refine S_X11_give ?_
          refine R_eqs (st2 := [vI 1]) (σ2 := (kup σ 0 0 0)) rfl rfl ?_
          exact R_ireturn e_X11_lived_5.2.2 rfl h
      · replace h := h.2 q
        refine R_aload_n e_X11_lived_1.2.2.2.1 0 rfl ?_
        refine R_bipush e_X11_lived_1.2.2.2.2.1 (by decide) ?_
        refine R_callV (mc := 0) (ms := 0) (mc' := 0) (ms' := 0) (M' := M_X11_deny) (d' := 0) (as := [vI 6]) (st := []) 11 1 e_X11_lived_1.2.2.2.2.2.1 (kCVof m_X11_deny l_X11_132) rfl (by decide) kx_0 (by decide) (by decide) rfl rfl (by show (0 : Nat) ≤ 8; decide) ?_
        refine S_X11_deny ?_
        refine R_eqs (st2 := [vI (-1)]) (σ2 := (kup σ 0 0 6)) rfl rfl ?_
        exact R_ireturn e_X11_lived_1.2.2.2.2.2.2.1 rfl h
    · replace h := h.2 q
      refine R_aload_n e_X11_lived_0.2.2.2.2.2.1 0 rfl ?_
      refine R_iconst e_X11_lived_0.2.2.2.2.2.2.1 ?_
      refine R_callV (mc := 0) (ms := 0) (mc' := 0) (ms' := 0) (M' := M_X11_deny) (d' := 0) (as := [vI 1]) (st := []) 11 1 e_X11_lived_0.2.2.2.2.2.2.2.1 (kCVof m_X11_deny l_X11_132) rfl (by decide) kx_0 (by decide) (by decide) rfl rfl (by show (0 : Nat) ≤ 8; decide) ?_
      refine S_X11_deny ?_
      refine R_eqs (st2 := [vI (-1)]) (σ2 := (kup σ 0 0 1)) rfl rfl ?_
      exact R_ireturn e_X11_lived_0.2.2.2.2.2.2.2.2.1 rfl h
/-! KiteLand.mean(III)Z -/
theorem e_X11_mean_0 : decode cX11_mean 0 = .ok (.aload_n 0, 1) ∧ decode cX11_mean 1 = .ok (.getfield 43, 3) ∧ decode cX11_mean 4 = .ok (.iload_n 1, 1) ∧ decode cX11_mean 5 = .ok (.invokevirtual 238, 3) ∧ decode cX11_mean 8 = .ok (.ifCond .eq 27, 3) ∧ decode cX11_mean 11 = .ok (.iload_n 2, 1) ∧ decode cX11_mean 12 = .ok (.ifCond .lt 23, 3) ∧ decode cX11_mean 15 = .ok (.iload_n 3, 1) ∧ decode cX11_mean 16 = .ok (.iconst 1, 1) ∧ decode cX11_mean 17 = .ok (.if_icmp .lt 18, 3) := by decide +kernel
theorem e_X11_mean_1 : decode cX11_mean 20 = .ok (.iload_n 3, 1) ∧ decode cX11_mean 21 = .ok (.bipush 20, 2) ∧ decode cX11_mean 23 = .ok (.if_icmp .gt 12, 3) ∧ decode cX11_mean 26 = .ok (.iload_n 2, 1) ∧ decode cX11_mean 27 = .ok (.sipush 10000, 3) ∧ decode cX11_mean 30 = .ok (.iload_n 3, 1) ∧ decode cX11_mean 31 = .ok (.isub, 1) ∧ decode cX11_mean 32 = .ok (.if_icmp .le 9, 3) ∧ decode cX11_mean 35 = .ok (.aload_n 0, 1) ∧ decode cX11_mean 36 = .ok (.iconst 1, 1) := by decide +kernel
theorem e_X11_mean_2 : decode cX11_mean 37 = .ok (.invokevirtual 113, 3) ∧ decode cX11_mean 40 = .ok (.ireturn, 1) ∧ decode cX11_mean 41 = .ok (.aload_n 0, 1) ∧ decode cX11_mean 42 = .ok (.getfield 71, 3) ∧ decode cX11_mean 45 = .ok (.getfield 460, 3) ∧ decode cX11_mean 48 = .ok (.ifCond .ne 10, 3) ∧ decode cX11_mean 51 = .ok (.aload_n 0, 1) ∧ decode cX11_mean 52 = .ok (.bipush 6, 2) ∧ decode cX11_mean 54 = .ok (.invokevirtual 113, 3) ∧ decode cX11_mean 57 = .ok (.ireturn, 1) := by decide +kernel
theorem e_X11_mean_3 : decode cX11_mean 58 = .ok (.lconst 0, 1) ∧ decode cX11_mean 59 = .ok (.lstore 4, 2) ∧ decode cX11_mean 61 = .ok (.iconst 0, 1) ∧ decode cX11_mean 62 = .ok (.istore 6, 2) ∧ decode cX11_mean 64 = .ok (.iload 6, 2) ∧ decode cX11_mean 66 = .ok (.iload_n 3, 1) ∧ decode cX11_mean 67 = .ok (.if_icmp .ge 61, 3) ∧ decode cX11_mean 70 = .ok (.aload_n 0, 1) ∧ decode cX11_mean 71 = .ok (.getfield 47, 3) ∧ decode cX11_mean 74 = .ok (.aload_n 0, 1) := by decide +kernel
theorem e_X11_mean_4 : decode cX11_mean 75 = .ok (.getfield 43, 3) ∧ decode cX11_mean 78 = .ok (.invokevirtual 167, 3) ∧ decode cX11_mean 81 = .ok (.aload_n 0, 1) ∧ decode cX11_mean 82 = .ok (.getfield 85, 3) ∧ decode cX11_mean 85 = .ok (.aload_n 0, 1) ∧ decode cX11_mean 86 = .ok (.getfield 71, 3) ∧ decode cX11_mean 89 = .ok (.aload_n 0, 1) ∧ decode cX11_mean 90 = .ok (.getfield 47, 3) ∧ decode cX11_mean 93 = .ok (.aload_n 0, 1) ∧ decode cX11_mean 94 = .ok (.getfield 64, 3) := by decide +kernel
theorem e_X11_mean_5 : decode cX11_mean 97 = .ok (.iload_n 2, 1) ∧ decode cX11_mean 98 = .ok (.iload 6, 2) ∧ decode cX11_mean 100 = .ok (.iadd, 1) ∧ decode cX11_mean 101 = .ok (.invokevirtual 461, 3) ∧ decode cX11_mean 104 = .ok (.lload 4, 2) ∧ decode cX11_mean 106 = .ok (.aload_n 0, 1) ∧ decode cX11_mean 107 = .ok (.getfield 47, 3) ∧ decode cX11_mean 110 = .ok (.getfield 241, 3) ∧ decode cX11_mean 113 = .ok (.iload_n 1, 1) ∧ decode cX11_mean 114 = .ok (.aaload, 1) := by decide +kernel
theorem e_X11_mean_6 : decode cX11_mean 115 = .ok (.getfield 262, 3) ∧ decode cX11_mean 118 = .ok (.i2l, 1) ∧ decode cX11_mean 119 = .ok (.ladd, 1) ∧ decode cX11_mean 120 = .ok (.lstore 4, 2) ∧ decode cX11_mean 122 = .ok (.iinc 6 1, 3) ∧ decode cX11_mean 125 = .ok (.goto (-61), 3) ∧ decode cX11_mean 128 = .ok (.aload_n 0, 1) ∧ decode cX11_mean 129 = .ok (.lload 4, 2) ∧ decode cX11_mean 131 = .ok (.iload_n 3, 1) ∧ decode cX11_mean 132 = .ok (.i2l, 1) := by decide +kernel
theorem e_X11_mean_7 : decode cX11_mean 133 = .ok (.invokevirtual 454, 3) ∧ decode cX11_mean 136 = .ok (.aload_n 0, 1) ∧ decode cX11_mean 137 = .ok (.invokevirtual 120, 3) ∧ decode cX11_mean 140 = .ok (.ireturn, 1) := by decide +kernel
abbrev E_X11_mean_64 (G : Kg) (l1 l2 l3 l4 l6 : Int) (σ : Kmem) (Q : Int → Kmem → Prop) : Prop := Ex G WX M_X11_mean 7 0 0 64 [(0, vA G 0), (1, vI l1), (2, vI l2), (3, vI l3), (4, vL l4), (6, vI l6)] [] σ Q
theorem S_X11_mean {G : Kg} {σ : Kmem} {Q : Int → Kmem → Prop} {l1 l2 l3 : Int} {v : Int → Int}  (h : (wf v ∧ kco σ 5 v ∧ rI (l1)) ∧ ((¬ (sKt v (l1)) → Q 0 (kup σ 0 0 1)) ∧ ((sKt v (l1)) → (rI l2) ∧ ((l2 < 0 → Q 0 (kup σ 0 0 1)) ∧ (0 ≤ l2 → (rI l3) ∧ ((l3 < 1 → Q 0 (kup σ 0 0 1)) ∧ (1 ≤ l3 → ((20 < l3 → Q 0 (kup σ 0 0 1)) ∧ (l3 ≤ 20 → (rI (10000 - l3)) ∧ ((l2 ≤ 10000 - l3 → (rI (σ 64 0)) ∧ ((σ 64 0 ≠ 0 → E_X11_mean_64 G l1 l2 l3 0 0 σ Q) ∧ (σ 64 0 = 0 → Q 0 (kup σ 0 0 6)))) ∧ (10000 - l3 < l2 → Q 0 (kup σ 0 0 1)))))))))))) : Run G WX M_X11_mean 7 0 0 [vA G 0, vI l1, vI l2, vI l3] σ Q := by
  refine Run.of (by decide +kernel) (by show (4 : Nat) ≤ 7; decide) ?_
  show Ex G WX M_X11_mean 7 0 0 0 [(0, vA G 0), (1, vI l1), (2, vI l2), (3, vI l3)] [] σ Q
  refine R_aload_n e_X11_mean_0.1 0 rfl ?_
  refine R_getA 11 7 5 e_X11_mean_0.2.1 f_X11_43 kx_0 (fun _ _ => rfl) rx_0_7 (by decide) ?_
  refine R_iload_n e_X11_mean_0.2.2.1 1 rfl ?_
  obtain ⟨q3, h⟩ := h
  refine R_callV (mc := 0) (ms := 0) (mc' := 0) (ms' := 0) (M' := M_X0_hasKite) (d' := 0) (as := [vI l1]) (st := []) 0 1 e_X11_mean_0.2.2.2.1 (kCVof m_X0_hasKite l_X11_238) rfl (by decide) (kC_self isC_5) (by decide) (by decide) rfl rfl (by show (0 : Nat) ≤ 8; decide) ?_
  refine Run.mono (P_X0_hasKite isC_5 q3) (fun rr ss e => ?_)
  obtain ⟨e1, e2⟩ := e
  refine R_eqs (st2 := [vI (kb (sKt v (l1)))]) (σ2 := σ) (by rw [e1]; rfl) e2 ?_
  refine R_if_eq 35 e_X11_mean_0.2.2.2.2.1 (by decide) (kb_r _) (fun q => ?_) (fun q => ?_)
  · replace h := h.1 (kb_f q)
    refine R_aload_n e_X11_mean_1.2.2.2.2.2.2.2.2.1 0 rfl ?_
    refine R_iconst e_X11_mean_1.2.2.2.2.2.2.2.2.2 ?_
    refine R_callV (mc := 0) (ms := 0) (mc' := 0) (ms' := 0) (M' := M_X11_refuse) (d' := 0) (as := [vI 1]) (st := []) 11 1 e_X11_mean_2.1 (kCVof m_X11_refuse l_X11_113) rfl (by decide) kx_0 (by decide) (by decide) rfl rfl (by show (0 : Nat) ≤ 8; decide) ?_
    refine S_X11_refuse ?_
    refine R_eqs (st2 := [vI 0]) (σ2 := (kup σ 0 0 1)) rfl rfl ?_
    exact R_zreturn e_X11_mean_2.2.1 rfl (Or.inl rfl) h
  · replace h := h.2 (kb_t q)
    refine R_iload_n e_X11_mean_0.2.2.2.2.2.1 2 rfl ?_
    obtain ⟨q6, h⟩ := h
    refine R_if_lt 35 e_X11_mean_0.2.2.2.2.2.2.1 (by decide) q6  (fun q => ?_) (fun q => ?_)
    · replace h := h.1 q
      refine R_aload_n e_X11_mean_1.2.2.2.2.2.2.2.2.1 0 rfl ?_
      refine R_iconst e_X11_mean_1.2.2.2.2.2.2.2.2.2 ?_
      refine R_callV (mc := 0) (ms := 0) (mc' := 0) (ms' := 0) (M' := M_X11_refuse) (d' := 0) (as := [vI 1]) (st := []) 11 1 e_X11_mean_2.1 (kCVof m_X11_refuse l_X11_113) rfl (by decide) kx_0 (by decide) (by decide) rfl rfl (by show (0 : Nat) ≤ 8; decide) ?_
      refine S_X11_refuse ?_
      refine R_eqs (st2 := [vI 0]) (σ2 := (kup σ 0 0 1)) rfl rfl ?_
      exact R_zreturn e_X11_mean_2.2.1 rfl (Or.inl rfl) h
    · replace h := h.2 q
      refine R_iload_n e_X11_mean_0.2.2.2.2.2.2.2.1 3 rfl ?_
      refine R_iconst e_X11_mean_0.2.2.2.2.2.2.2.2.1 ?_
      obtain ⟨q9, h⟩ := h
      refine R_icmp_lt 35 e_X11_mean_0.2.2.2.2.2.2.2.2.2 (by decide) q9 (by decide) (fun q => ?_) (fun q => ?_)
      · replace h := h.1 q
        refine R_aload_n e_X11_mean_1.2.2.2.2.2.2.2.2.1 0 rfl ?_
        refine R_iconst e_X11_mean_1.2.2.2.2.2.2.2.2.2 ?_
        refine R_callV (mc := 0) (ms := 0) (mc' := 0) (ms' := 0) (M' := M_X11_refuse) (d' := 0) (as := [vI 1]) (st := []) 11 1 e_X11_mean_2.1 (kCVof m_X11_refuse l_X11_113) rfl (by decide) kx_0 (by decide) (by decide) rfl rfl (by show (0 : Nat) ≤ 8; decide) ?_
        refine S_X11_refuse ?_
        refine R_eqs (st2 := [vI 0]) (σ2 := (kup σ 0 0 1)) rfl rfl ?_
        exact R_zreturn e_X11_mean_2.2.1 rfl (Or.inl rfl) h
      · replace h := h.2 q
        refine R_iload_n e_X11_mean_1.1 3 rfl ?_
        refine R_bipush e_X11_mean_1.2.1 (by decide) ?_
        refine R_icmp_gt 35 e_X11_mean_1.2.2.1 (by decide) q9 (by decide) (fun q => ?_) (fun q => ?_)
        · replace h := h.1 q
          refine R_aload_n e_X11_mean_1.2.2.2.2.2.2.2.2.1 0 rfl ?_
          refine R_iconst e_X11_mean_1.2.2.2.2.2.2.2.2.2 ?_
          refine R_callV (mc := 0) (ms := 0) (mc' := 0) (ms' := 0) (M' := M_X11_refuse) (d' := 0) (as := [vI 1]) (st := []) 11 1 e_X11_mean_2.1 (kCVof m_X11_refuse l_X11_113) rfl (by decide) kx_0 (by decide) (by decide) rfl rfl (by show (0 : Nat) ≤ 8; decide) ?_
          refine S_X11_refuse ?_
          refine R_eqs (st2 := [vI 0]) (σ2 := (kup σ 0 0 1)) rfl rfl ?_
          exact R_zreturn e_X11_mean_2.2.1 rfl (Or.inl rfl) h
        · replace h := h.2 q
          refine R_iload_n e_X11_mean_1.2.2.2.1 2 rfl ?_
          refine R_sipush e_X11_mean_1.2.2.2.2.1 (by decide) ?_
          refine R_iload_n e_X11_mean_1.2.2.2.2.2.1 3 rfl ?_
          refine R_isub e_X11_mean_1.2.2.2.2.2.2.1 ?_
          obtain ⟨q14, h⟩ := h
          refine R_icmp_le 41 e_X11_mean_1.2.2.2.2.2.2.2.1 (by decide) q6 q14 (fun q => ?_) (fun q => ?_)
          · replace h := h.1 q
            refine R_aload_n e_X11_mean_2.2.2.1 0 rfl ?_
            refine R_getA 11 11 64 e_X11_mean_2.2.2.2.1 f_X11_71 kx_0 (fun _ _ => rfl) rx_0_11 (by decide) ?_
            refine R_getI 7 0 0 e_X11_mean_2.2.2.2.2.1 f_X11_460 (kS_self isS_64) (fun _ _ => rfl) rfl ?_
            obtain ⟨q15, h⟩ := h
            refine R_if_ne 58 e_X11_mean_2.2.2.2.2.2.1 (by decide) q15  (fun q => ?_) (fun q => ?_)
            · replace h := h.1 q
              refine R_lconst 0 e_X11_mean_3.1 (by decide) ?_
              refine R_lstore (ls2 := [(4, vL 0), (0, vA G 0), (1, vI l1), (2, vI l2), (3, vI l3)]) e_X11_mean_3.2.1 (by decide) rfl ?_
              refine R_iconst e_X11_mean_3.2.2.1 ?_
              refine R_istore (ls2 := [(6, vI 0), (4, vL 0), (0, vA G 0), (1, vI l1), (2, vI l2), (3, vI l3)]) e_X11_mean_3.2.2.2.1 (by decide) rfl ?_
              refine R_ls (ls2 := [(0, vA G 0), (1, vI l1), (2, vI l2), (3, vI l3), (4, vL 0), (6, vI 0)]) [2, 3, 4, 5, 1, 0] rfl ?_
              exact h
            · replace h := h.2 q
              refine R_aload_n e_X11_mean_2.2.2.2.2.2.2.1 0 rfl ?_
              refine R_bipush e_X11_mean_2.2.2.2.2.2.2.2.1 (by decide) ?_
              refine R_callV (mc := 0) (ms := 0) (mc' := 0) (ms' := 0) (M' := M_X11_refuse) (d' := 0) (as := [vI 6]) (st := []) 11 1 e_X11_mean_2.2.2.2.2.2.2.2.2.1 (kCVof m_X11_refuse l_X11_113) rfl (by decide) kx_0 (by decide) (by decide) rfl rfl (by show (0 : Nat) ≤ 8; decide) ?_
              refine S_X11_refuse ?_
              refine R_eqs (st2 := [vI 0]) (σ2 := (kup σ 0 0 6)) rfl rfl ?_
              exact R_zreturn e_X11_mean_2.2.2.2.2.2.2.2.2.2 rfl (Or.inl rfl) h
          · replace h := h.2 q
            refine R_aload_n e_X11_mean_1.2.2.2.2.2.2.2.2.1 0 rfl ?_
            refine R_iconst e_X11_mean_1.2.2.2.2.2.2.2.2.2 ?_
            refine R_callV (mc := 0) (ms := 0) (mc' := 0) (ms' := 0) (M' := M_X11_refuse) (d' := 0) (as := [vI 1]) (st := []) 11 1 e_X11_mean_2.1 (kCVof m_X11_refuse l_X11_113) rfl (by decide) kx_0 (by decide) (by decide) rfl rfl (by show (0 : Nat) ≤ 8; decide) ?_
            refine S_X11_refuse ?_
            refine R_eqs (st2 := [vI 0]) (σ2 := (kup σ 0 0 1)) rfl rfl ?_
            exact R_zreturn e_X11_mean_2.2.1 rfl (Or.inl rfl) h
theorem S_X11_mean_64 {G : Kg} {σ : Kmem} {Q : Int → Kmem → Prop} {l1 l2 l3 l4 l6 : Int}  (h : (rI l6) ∧ (rI l3) ∧ ((l3 ≤ l6 → Run G WX M_X11_tellFraction 0 0 0 [vA G 0, vL l4, vL l3] σ (fun r22 s23 => Q 1 (kup s23 0 0 0))) ∧ (l6 < l3 → Run G WX M_X0_copy 1 0 0 [vA G 31, vA G 5] σ (fun r26 s27 => Run G WX M_X4_run 6 0 0 [vA G 80, vA G 64, vA G 31, vA G 58, vI (l2 + l6)] s27 (fun r28 s29 => (0 ≤ l1 ∧ l1 < 6) ∧ (rI (s29 (31 + 6 + l1) 7)) ∧ E_X11_mean_64 G l1 l2 l3 (l4 + (s29 (31 + 6 + l1) 7)) (l6 + 1) s29 Q))))) : E_X11_mean_64 G l1 l2 l3 l4 l6 σ Q := by
  refine R_iload e_X11_mean_3.2.2.2.2.1 5 rfl ?_
  refine R_iload_n e_X11_mean_3.2.2.2.2.2.1 3 rfl ?_
  obtain ⟨q20, h⟩ := h
  obtain ⟨q21, h⟩ := h
  refine R_icmp_ge 128 e_X11_mean_3.2.2.2.2.2.2.1 (by decide) q20 q21 (fun q => ?_) (fun q => ?_)
  · replace h := h.1 q
    refine R_aload_n e_X11_mean_6.2.2.2.2.2.2.1 0 rfl ?_
    refine R_lload e_X11_mean_6.2.2.2.2.2.2.2.1 4 rfl ?_
    refine R_iload_n e_X11_mean_6.2.2.2.2.2.2.2.2.1 3 rfl ?_
    refine R_i2l e_X11_mean_6.2.2.2.2.2.2.2.2.2 q21 ?_
    refine R_callV (mc := 0) (ms := 0) (mc' := 0) (ms' := 0) (M' := M_X11_tellFraction) (d' := 0) (as := [vL l4, vL l3]) (st := []) 11 2 e_X11_mean_7.1 (kCVof m_X11_tellFraction l_X11_454) rfl (by decide) kx_0 (by decide) (by decide) rfl rfl (by show (0 : Nat) ≤ 8; decide) ?_
    refine Run.mono h (fun r22 s23 h => ?_)
    refine R_eqs (st2 := []) rfl rfl ?_
    refine R_aload_n e_X11_mean_7.2.1 0 rfl ?_
    refine R_callV (mc := 0) (ms := 0) (mc' := 0) (ms' := 0) (M' := M_X11_grant) (d' := 0) (as := []) (st := []) 11 0 e_X11_mean_7.2.2.1 (kCVof m_X11_grant l_X11_120) rfl (by decide) kx_0 (by decide) (by decide) rfl rfl (by show (0 : Nat) ≤ 8; decide) ?_
    refine S_X11_grant ?_
    refine R_eqs (st2 := [vI 1]) (σ2 := (kup s23 0 0 0)) rfl rfl ?_
    exact R_zreturn e_X11_mean_7.2.2.2 rfl (Or.inr rfl) h
  · replace h := h.2 q
    refine R_aload_n e_X11_mean_3.2.2.2.2.2.2.2.1 0 rfl ?_
    refine R_getA 11 8 31 e_X11_mean_3.2.2.2.2.2.2.2.2.1 f_X11_47 kx_0 (fun _ _ => rfl) rx_0_8 (by decide) ?_
    refine R_aload_n e_X11_mean_3.2.2.2.2.2.2.2.2.2 0 rfl ?_
    refine R_getA 11 7 5 e_X11_mean_4.1 f_X11_43 kx_0 (fun _ _ => rfl) rx_0_7 (by decide) ?_
    refine R_callV (mc := 0) (ms := 0) (mc' := 0) (ms' := 0) (M' := M_X0_copy) (d' := 1) (as := [vA G 5]) (st := []) 0 1 e_X11_mean_4.2.1 (kCVof m_X0_copy l_X11_167) rfl (by decide) (kC_self isC_31) (by decide) (by decide) rfl rfl (by show (0 : Nat) ≤ 8; decide) ?_
    refine Run.mono h (fun r26 s27 h => ?_)
    refine R_eqs (st2 := []) rfl rfl ?_
    refine R_aload_n e_X11_mean_4.2.2.1 0 rfl ?_
    refine R_getA 11 14 80 e_X11_mean_4.2.2.2.1 f_X11_85 kx_0 (fun _ _ => rfl) rx_0_14 (by decide) ?_
    refine R_aload_n e_X11_mean_4.2.2.2.2.1 0 rfl ?_
    refine R_getA 11 11 64 e_X11_mean_4.2.2.2.2.2.1 f_X11_71 kx_0 (fun _ _ => rfl) rx_0_11 (by decide) ?_
    refine R_aload_n e_X11_mean_4.2.2.2.2.2.2.1 0 rfl ?_
    refine R_getA 11 8 31 e_X11_mean_4.2.2.2.2.2.2.2.1 f_X11_47 kx_0 (fun _ _ => rfl) rx_0_8 (by decide) ?_
    refine R_aload_n e_X11_mean_4.2.2.2.2.2.2.2.2.1 0 rfl ?_
    refine R_getA 11 10 58 e_X11_mean_4.2.2.2.2.2.2.2.2.2 f_X11_64 kx_0 (fun _ _ => rfl) rx_0_10 (by decide) ?_
    refine R_iload_n e_X11_mean_5.1 2 rfl ?_
    refine R_iload e_X11_mean_5.2.1 5 rfl ?_
    refine R_iadd e_X11_mean_5.2.2.1 ?_
    refine R_callV (mc := 0) (ms := 0) (mc' := 0) (ms' := 0) (M' := M_X4_run) (d' := 6) (as := [vA G 64, vA G 31, vA G 58, vI (l2 + l6)]) (st := []) 4 4 e_X11_mean_5.2.2.2.1 (kCVof m_X4_run l_X11_461) rfl (by decide) (kL_self isLf_80) (by decide) (by decide) rfl rfl (by show (0 : Nat) ≤ 8; decide) ?_
    refine Run.mono h (fun r28 s29 h => ?_)
    refine R_eqs (st2 := []) rfl rfl ?_
    refine R_lload e_X11_mean_5.2.2.2.2.1 4 rfl ?_
    refine R_aload_n e_X11_mean_5.2.2.2.2.2.1 0 rfl ?_
    refine R_getA 11 8 31 e_X11_mean_5.2.2.2.2.2.2.1 f_X11_47 kx_0 (fun _ _ => rfl) rx_0_8 (by decide) ?_
    refine R_getA 0 10 (31 + 3) e_X11_mean_5.2.2.2.2.2.2.2.1 f_X11_241 (kC_self isC_31) (fun _ _ => rfl) (kC_r10 isC_31) (kC_n3 isC_31) ?_
    refine R_iload_n e_X11_mean_5.2.2.2.2.2.2.2.2.1 1 rfl ?_
    obtain ⟨q30, h⟩ := h
    refine R_aald 27 6 (31 + 6 + l1) e_X11_mean_5.2.2.2.2.2.2.2.2.2 (by decide) (kC_kites isC_31) q30 (kC_kiteAt isC_31 q30) (kC_kiteN isC_31 q30) ?_
    refine R_getI 3 7 7 e_X11_mean_6.1 f_X11_262 (kC_kite isC_31 q30) (fun _ _ => rfl) rfl ?_
    obtain ⟨q31, h⟩ := h
    refine R_i2l e_X11_mean_6.2.1 q31 ?_
    refine R_ladd e_X11_mean_6.2.2.1 ?_
    refine R_lstore (ls2 := [(4, vL (l4 + (s29 (31 + 6 + l1) 7))), (0, vA G 0), (1, vI l1), (2, vI l2), (3, vI l3), (6, vI l6)]) e_X11_mean_6.2.2.2.1 (by decide) rfl ?_
    refine R_iinc (ls2 := [(6, vI (l6 + 1)), (4, vL (l4 + (s29 (31 + 6 + l1) 7))), (0, vA G 0), (1, vI l1), (2, vI l2), (3, vI l3)]) e_X11_mean_6.2.2.2.2.1 5 rfl (by decide) rfl ?_
    refine R_goto 64 e_X11_mean_6.2.2.2.2.2.1 (by decide) ?_
    refine R_ls (ls2 := [(0, vA G 0), (1, vI l1), (2, vI l2), (3, vI l3), (4, vL (l4 + (s29 (31 + 6 + l1) 7))), (6, vI (l6 + 1))]) [2, 3, 4, 5, 1, 0] rfl ?_
    exact h
/-! KiteLand.mark()I -/
theorem e_X11_mark_0 : decode cX11_mark 0 = .ok (.aload_n 0, 1) ∧ decode cX11_mark 1 = .ok (.getfield 105, 3) ∧ decode cX11_mark 4 = .ok (.iconst 3, 1) ∧ decode cX11_mark 5 = .ok (.if_icmp .ne 9, 3) ∧ decode cX11_mark 8 = .ok (.aload_n 0, 1) ∧ decode cX11_mark 9 = .ok (.iconst 4, 1) ∧ decode cX11_mark 10 = .ok (.invokevirtual 132, 3) ∧ decode cX11_mark 13 = .ok (.ireturn, 1) ∧ decode cX11_mark 14 = .ok (.aload_n 0, 1) ∧ decode cX11_mark 15 = .ok (.getfield 97, 3) := by decide +kernel
theorem e_X11_mark_1 : decode cX11_mark 18 = .ok (.aload_n 0, 1) ∧ decode cX11_mark 19 = .ok (.getfield 105, 3) ∧ decode cX11_mark 22 = .ok (.aaload, 1) ∧ decode cX11_mark 23 = .ok (.aload_n 0, 1) ∧ decode cX11_mark 24 = .ok (.getfield 43, 3) ∧ decode cX11_mark 27 = .ok (.invokevirtual 167, 3) ∧ decode cX11_mark 30 = .ok (.aload_n 0, 1) ∧ decode cX11_mark 31 = .ok (.getfield 101, 3) ∧ decode cX11_mark 34 = .ok (.aload_n 0, 1) ∧ decode cX11_mark 35 = .ok (.getfield 105, 3) := by decide +kernel
theorem e_X11_mark_2 : decode cX11_mark 38 = .ok (.aaload, 1) ∧ decode cX11_mark 39 = .ok (.aload_n 0, 1) ∧ decode cX11_mark 40 = .ok (.getfield 71, 3) ∧ decode cX11_mark 43 = .ok (.invokevirtual 182, 3) ∧ decode cX11_mark 46 = .ok (.aload_n 0, 1) ∧ decode cX11_mark 47 = .ok (.dup, 1) ∧ decode cX11_mark 48 = .ok (.getfield 105, 3) ∧ decode cX11_mark 51 = .ok (.iconst 1, 1) ∧ decode cX11_mark 52 = .ok (.iadd, 1) ∧ decode cX11_mark 53 = .ok (.putfield 105, 3) := by decide +kernel
theorem e_X11_mark_3 : decode cX11_mark 56 = .ok (.aload_n 0, 1) ∧ decode cX11_mark 57 = .ok (.aload_n 0, 1) ∧ decode cX11_mark 58 = .ok (.getfield 105, 3) ∧ decode cX11_mark 61 = .ok (.invokevirtual 176, 3) ∧ decode cX11_mark 64 = .ok (.ireturn, 1) := by decide +kernel
theorem S_X11_mark {G : Kg} {σ : Kmem} {Q : Int → Kmem → Prop}  (h : (rI (σ 0 18)) ∧ ((σ 0 18 ≠ 3 → (0 ≤ σ 0 18 ∧ σ 0 18 < 3) ∧ Run G WX M_X0_copy 1 0 0 [vA G (adC (σ 0 18)), vA G 5] σ (fun r3 s4 => (0 ≤ s4 0 18 ∧ s4 0 18 < 3) ∧ Run G WX M_X7_copy 1 0 0 [vA G (adS (s4 0 18)), vA G 64] s4 (fun r6 s7 => Q ((kup s7 0 18 ((s7 0 18) + 1)) 0 18) (kup (kup s7 0 18 ((s7 0 18) + 1)) 0 0 0)))) ∧ (σ 0 18 = 3 → Q (-1) (kup σ 0 0 4)))) : Run G WX M_X11_mark 2 0 0 [vA G 0] σ Q := by
  refine Run.of (by decide +kernel) (by show (1 : Nat) ≤ 1; decide) ?_
  show Ex G WX M_X11_mark 2 0 0 0 [(0, vA G 0)] [] σ Q
  refine R_aload_n e_X11_mark_0.1 0 rfl ?_
  refine R_getI 11 18 18 e_X11_mark_0.2.1 f_X11_105 kx_0 (fun _ _ => rfl) rfl ?_
  refine R_iconst e_X11_mark_0.2.2.1 ?_
  obtain ⟨q1, h⟩ := h
  refine R_icmp_ne 14 e_X11_mark_0.2.2.2.1 (by decide) q1 (by decide) (fun q => ?_) (fun q => ?_)
  · replace h := h.1 q
    refine R_aload_n e_X11_mark_0.2.2.2.2.2.2.2.2.1 0 rfl ?_
    refine R_getA 11 16 96 e_X11_mark_0.2.2.2.2.2.2.2.2.2 f_X11_97 kx_0 (fun _ _ => rfl) rx_0_16 (by decide) ?_
    refine R_aload_n e_X11_mark_1.1 0 rfl ?_
    refine R_getI 11 18 18 e_X11_mark_1.2.1 f_X11_105 kx_0 (fun _ _ => rfl) rfl ?_
    obtain ⟨q2, h⟩ := h
    refine R_aald 25 3 (adC (σ 0 18)) e_X11_mark_1.2.2.1 (by decide) kxa_96 q2 (adC_at q2) (adC_n q2) ?_
    refine R_aload_n e_X11_mark_1.2.2.2.1 0 rfl ?_
    refine R_getA 11 7 5 e_X11_mark_1.2.2.2.2.1 f_X11_43 kx_0 (fun _ _ => rfl) rx_0_7 (by decide) ?_
    refine R_callV (mc := 0) (ms := 0) (mc' := 0) (ms' := 0) (M' := M_X0_copy) (d' := 1) (as := [vA G 5]) (st := []) 0 1 e_X11_mark_1.2.2.2.2.2.1 (kCVof m_X0_copy l_X11_167) rfl (by decide) (kC_self (adC_is q2)) (by decide) (by decide) rfl rfl (by show (0 : Nat) ≤ 8; decide) ?_
    refine Run.mono h (fun r3 s4 h => ?_)
    refine R_eqs (st2 := []) rfl rfl ?_
    refine R_aload_n e_X11_mark_1.2.2.2.2.2.2.1 0 rfl ?_
    refine R_getA 11 17 97 e_X11_mark_1.2.2.2.2.2.2.2.1 f_X11_101 kx_0 (fun _ _ => rfl) rx_0_17 (by decide) ?_
    refine R_aload_n e_X11_mark_1.2.2.2.2.2.2.2.2.1 0 rfl ?_
    refine R_getI 11 18 18 e_X11_mark_1.2.2.2.2.2.2.2.2.2 f_X11_105 kx_0 (fun _ _ => rfl) rfl ?_
    obtain ⟨q5, h⟩ := h
    refine R_aald 26 3 (adS (s4 0 18)) e_X11_mark_2.1 (by decide) kxa_97 q5 (adS_at q5) (adS_n q5) ?_
    refine R_aload_n e_X11_mark_2.2.1 0 rfl ?_
    refine R_getA 11 11 64 e_X11_mark_2.2.2.1 f_X11_71 kx_0 (fun _ _ => rfl) rx_0_11 (by decide) ?_
    refine R_callV (mc := 0) (ms := 0) (mc' := 0) (ms' := 0) (M' := M_X7_copy) (d' := 1) (as := [vA G 64]) (st := []) 7 1 e_X11_mark_2.2.2.2.1 (kCVof m_X7_copy l_X11_182) rfl (by decide) (kS_self (adS_is q5)) (by decide) (by decide) rfl rfl (by show (0 : Nat) ≤ 8; decide) ?_
    refine Run.mono h (fun r6 s7 h => ?_)
    refine R_eqs (st2 := []) rfl rfl ?_
    refine R_aload_n e_X11_mark_2.2.2.2.2.1 0 rfl ?_
    refine R_dup e_X11_mark_2.2.2.2.2.2.1 rfl ?_
    refine R_getI 11 18 18 e_X11_mark_2.2.2.2.2.2.2.1 f_X11_105 kx_0 (fun _ _ => rfl) rfl ?_
    refine R_iconst e_X11_mark_2.2.2.2.2.2.2.2.1 ?_
    refine R_iadd e_X11_mark_2.2.2.2.2.2.2.2.2.1 ?_
    refine R_putI 11 18 18 WX_ok e_X11_mark_2.2.2.2.2.2.2.2.2.2 f_X11_105 kx_0 rfl rfl rfl ?_
    refine R_aload_n e_X11_mark_3.1 0 rfl ?_
    refine R_aload_n e_X11_mark_3.2.1 0 rfl ?_
    refine R_getI 11 18 18 e_X11_mark_3.2.2.1 f_X11_105 kx_0 (fun _ _ => rfl) rfl ?_
    refine R_callV (mc := 0) (ms := 0) (mc' := 0) (ms' := 0) (M' := M_X11_give) (d' := 0) (as := [vI ((kup s7 0 18 ((s7 0 18) + 1)) 0 18)]) (st := []) 11 1 e_X11_mark_3.2.2.2.1 (kCVof m_X11_give l_X11_176) rfl (by decide) kx_0 (by decide) (by decide) rfl rfl (by show (0 : Nat) ≤ 8; decide) ?_
    refine S_X11_give ?_
    refine R_eqs (st2 := [vI ((kup s7 0 18 ((s7 0 18) + 1)) 0 18)]) (σ2 := (kup (kup s7 0 18 ((s7 0 18) + 1)) 0 0 0)) rfl rfl ?_
    exact R_ireturn e_X11_mark_3.2.2.2.2 rfl h
  · replace h := h.2 q
    refine R_aload_n e_X11_mark_0.2.2.2.2.1 0 rfl ?_
    refine R_iconst e_X11_mark_0.2.2.2.2.2.1 ?_
    refine R_callV (mc := 0) (ms := 0) (mc' := 0) (ms' := 0) (M' := M_X11_deny) (d' := 0) (as := [vI 4]) (st := []) 11 1 e_X11_mark_0.2.2.2.2.2.2.1 (kCVof m_X11_deny l_X11_132) rfl (by decide) kx_0 (by decide) (by decide) rfl rfl (by show (0 : Nat) ≤ 8; decide) ?_
    refine S_X11_deny ?_
    refine R_eqs (st2 := [vI (-1)]) (σ2 := (kup σ 0 0 4)) rfl rfl ?_
    exact R_ireturn e_X11_mark_0.2.2.2.2.2.2.2.1 rfl h
/-! KiteLand.undo()I -/
theorem e_X11_undo_0 : decode cX11_undo 0 = .ok (.aload_n 0, 1) ∧ decode cX11_undo 1 = .ok (.getfield 105, 3) ∧ decode cX11_undo 4 = .ok (.ifCond .ne 10, 3) ∧ decode cX11_undo 7 = .ok (.aload_n 0, 1) ∧ decode cX11_undo 8 = .ok (.bipush 6, 2) ∧ decode cX11_undo 10 = .ok (.invokevirtual 132, 3) ∧ decode cX11_undo 13 = .ok (.ireturn, 1) ∧ decode cX11_undo 14 = .ok (.aload_n 0, 1) ∧ decode cX11_undo 15 = .ok (.dup, 1) ∧ decode cX11_undo 16 = .ok (.getfield 105, 3) := by decide +kernel
theorem e_X11_undo_1 : decode cX11_undo 19 = .ok (.iconst 1, 1) ∧ decode cX11_undo 20 = .ok (.isub, 1) ∧ decode cX11_undo 21 = .ok (.putfield 105, 3) ∧ decode cX11_undo 24 = .ok (.aload_n 0, 1) ∧ decode cX11_undo 25 = .ok (.getfield 43, 3) ∧ decode cX11_undo 28 = .ok (.aload_n 0, 1) ∧ decode cX11_undo 29 = .ok (.getfield 97, 3) ∧ decode cX11_undo 32 = .ok (.aload_n 0, 1) ∧ decode cX11_undo 33 = .ok (.getfield 105, 3) ∧ decode cX11_undo 36 = .ok (.aaload, 1) := by decide +kernel
theorem e_X11_undo_2 : decode cX11_undo 37 = .ok (.invokevirtual 167, 3) ∧ decode cX11_undo 40 = .ok (.aload_n 0, 1) ∧ decode cX11_undo 41 = .ok (.getfield 71, 3) ∧ decode cX11_undo 44 = .ok (.aload_n 0, 1) ∧ decode cX11_undo 45 = .ok (.getfield 101, 3) ∧ decode cX11_undo 48 = .ok (.aload_n 0, 1) ∧ decode cX11_undo 49 = .ok (.getfield 105, 3) ∧ decode cX11_undo 52 = .ok (.aaload, 1) ∧ decode cX11_undo 53 = .ok (.invokevirtual 182, 3) ∧ decode cX11_undo 56 = .ok (.aload_n 0, 1) := by decide +kernel
theorem e_X11_undo_3 : decode cX11_undo 57 = .ok (.aload_n 0, 1) ∧ decode cX11_undo 58 = .ok (.getfield 105, 3) ∧ decode cX11_undo 61 = .ok (.invokevirtual 176, 3) ∧ decode cX11_undo 64 = .ok (.ireturn, 1) := by decide +kernel
theorem S_X11_undo {G : Kg} {σ : Kmem} {Q : Int → Kmem → Prop}  (h : (rI (σ 0 18)) ∧ ((σ 0 18 ≠ 0 → (0 ≤ (kup σ 0 18 ((σ 0 18) - 1)) 0 18 ∧ (kup σ 0 18 ((σ 0 18) - 1)) 0 18 < 3) ∧ Run G WX M_X0_copy 1 0 0 [vA G 5, vA G (adC ((kup σ 0 18 ((σ 0 18) - 1)) 0 18))] (kup σ 0 18 ((σ 0 18) - 1)) (fun r3 s4 => (0 ≤ s4 0 18 ∧ s4 0 18 < 3) ∧ Run G WX M_X7_copy 1 0 0 [vA G 64, vA G (adS (s4 0 18))] s4 (fun r6 s7 => Q (s7 0 18) (kup s7 0 0 0)))) ∧ (σ 0 18 = 0 → Q (-1) (kup σ 0 0 6)))) : Run G WX M_X11_undo 2 0 0 [vA G 0] σ Q := by
  refine Run.of (by decide +kernel) (by show (1 : Nat) ≤ 1; decide) ?_
  show Ex G WX M_X11_undo 2 0 0 0 [(0, vA G 0)] [] σ Q
  refine R_aload_n e_X11_undo_0.1 0 rfl ?_
  refine R_getI 11 18 18 e_X11_undo_0.2.1 f_X11_105 kx_0 (fun _ _ => rfl) rfl ?_
  obtain ⟨q1, h⟩ := h
  refine R_if_ne 14 e_X11_undo_0.2.2.1 (by decide) q1  (fun q => ?_) (fun q => ?_)
  · replace h := h.1 q
    refine R_aload_n e_X11_undo_0.2.2.2.2.2.2.2.1 0 rfl ?_
    refine R_dup e_X11_undo_0.2.2.2.2.2.2.2.2.1 rfl ?_
    refine R_getI 11 18 18 e_X11_undo_0.2.2.2.2.2.2.2.2.2 f_X11_105 kx_0 (fun _ _ => rfl) rfl ?_
    refine R_iconst e_X11_undo_1.1 ?_
    refine R_isub e_X11_undo_1.2.1 ?_
    refine R_putI 11 18 18 WX_ok e_X11_undo_1.2.2.1 f_X11_105 kx_0 rfl rfl rfl ?_
    refine R_aload_n e_X11_undo_1.2.2.2.1 0 rfl ?_
    refine R_getA 11 7 5 e_X11_undo_1.2.2.2.2.1 f_X11_43 kx_0 (fun _ _ => rfl) rx_0_7 (by decide) ?_
    refine R_aload_n e_X11_undo_1.2.2.2.2.2.1 0 rfl ?_
    refine R_getA 11 16 96 e_X11_undo_1.2.2.2.2.2.2.1 f_X11_97 kx_0 (fun _ _ => rfl) rx_0_16 (by decide) ?_
    refine R_aload_n e_X11_undo_1.2.2.2.2.2.2.2.1 0 rfl ?_
    refine R_getI 11 18 18 e_X11_undo_1.2.2.2.2.2.2.2.2.1 f_X11_105 kx_0 (fun _ _ => rfl) rfl ?_
    obtain ⟨q2, h⟩ := h
    refine R_aald 25 3 (adC ((kup σ 0 18 ((σ 0 18) - 1)) 0 18)) e_X11_undo_1.2.2.2.2.2.2.2.2.2 (by decide) kxa_96 q2 (adC_at q2) (adC_n q2) ?_
    refine R_callV (mc := 0) (ms := 0) (mc' := 0) (ms' := 0) (M' := M_X0_copy) (d' := 1) (as := [vA G (adC ((kup σ 0 18 ((σ 0 18) - 1)) 0 18))]) (st := []) 0 1 e_X11_undo_2.1 (kCVof m_X0_copy l_X11_167) rfl (by decide) (kC_self isC_5) (by decide) (by decide) rfl rfl (by show (0 : Nat) ≤ 8; decide) ?_
    refine Run.mono h (fun r3 s4 h => ?_)
    refine R_eqs (st2 := []) rfl rfl ?_
    refine R_aload_n e_X11_undo_2.2.1 0 rfl ?_
    refine R_getA 11 11 64 e_X11_undo_2.2.2.1 f_X11_71 kx_0 (fun _ _ => rfl) rx_0_11 (by decide) ?_
    refine R_aload_n e_X11_undo_2.2.2.2.1 0 rfl ?_
    refine R_getA 11 17 97 e_X11_undo_2.2.2.2.2.1 f_X11_101 kx_0 (fun _ _ => rfl) rx_0_17 (by decide) ?_
    refine R_aload_n e_X11_undo_2.2.2.2.2.2.1 0 rfl ?_
    refine R_getI 11 18 18 e_X11_undo_2.2.2.2.2.2.2.1 f_X11_105 kx_0 (fun _ _ => rfl) rfl ?_
    obtain ⟨q5, h⟩ := h
    refine R_aald 26 3 (adS (s4 0 18)) e_X11_undo_2.2.2.2.2.2.2.2.1 (by decide) kxa_97 q5 (adS_at q5) (adS_n q5) ?_
    refine R_callV (mc := 0) (ms := 0) (mc' := 0) (ms' := 0) (M' := M_X7_copy) (d' := 1) (as := [vA G (adS (s4 0 18))]) (st := []) 7 1 e_X11_undo_2.2.2.2.2.2.2.2.2.1 (kCVof m_X7_copy l_X11_182) rfl (by decide) (kS_self isS_64) (by decide) (by decide) rfl rfl (by show (0 : Nat) ≤ 8; decide) ?_
    refine Run.mono h (fun r6 s7 h => ?_)
    refine R_eqs (st2 := []) rfl rfl ?_
    refine R_aload_n e_X11_undo_2.2.2.2.2.2.2.2.2.2 0 rfl ?_
    refine R_aload_n e_X11_undo_3.1 0 rfl ?_
    refine R_getI 11 18 18 e_X11_undo_3.2.1 f_X11_105 kx_0 (fun _ _ => rfl) rfl ?_
    refine R_callV (mc := 0) (ms := 0) (mc' := 0) (ms' := 0) (M' := M_X11_give) (d' := 0) (as := [vI (s7 0 18)]) (st := []) 11 1 e_X11_undo_3.2.2.1 (kCVof m_X11_give l_X11_176) rfl (by decide) kx_0 (by decide) (by decide) rfl rfl (by show (0 : Nat) ≤ 8; decide) ?_
    refine S_X11_give ?_
    refine R_eqs (st2 := [vI (s7 0 18)]) (σ2 := (kup s7 0 0 0)) rfl rfl ?_
    exact R_ireturn e_X11_undo_3.2.2.2 rfl h
  · replace h := h.2 q
    refine R_aload_n e_X11_undo_0.2.2.2.1 0 rfl ?_
    refine R_bipush e_X11_undo_0.2.2.2.2.1 (by decide) ?_
    refine R_callV (mc := 0) (ms := 0) (mc' := 0) (ms' := 0) (M' := M_X11_deny) (d' := 0) (as := [vI 6]) (st := []) 11 1 e_X11_undo_0.2.2.2.2.2.1 (kCVof m_X11_deny l_X11_132) rfl (by decide) kx_0 (by decide) (by decide) rfl rfl (by show (0 : Nat) ≤ 8; decide) ?_
    refine S_X11_deny ?_
    refine R_eqs (st2 := [vI (-1)]) (σ2 := (kup σ 0 0 6)) rfl rfl ?_
    exact R_ireturn e_X11_undo_0.2.2.2.2.2.2.1 rfl h
