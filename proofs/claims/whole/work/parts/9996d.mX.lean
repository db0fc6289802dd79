/-! KiteLandModel.strip(III)I -/
theorem e_X12_strip_0 : decode cX12_strip 0 = .ok (.aload_n 0, 1) ∧ decode cX12_strip 1 = .ok (.iload_n 1, 1) ∧ decode cX12_strip 2 = .ok (.invokevirtual 343, 3) ∧ decode cX12_strip 5 = .ok (.ifCond .eq 12, 3) ∧ decode cX12_strip 8 = .ok (.aload_n 0, 1) ∧ decode cX12_strip 9 = .ok (.iload_n 2, 1) ∧ decode cX12_strip 10 = .ok (.iload_n 3, 1) ∧ decode cX12_strip 11 = .ok (.invokevirtual 471, 3) ∧ decode cX12_strip 14 = .ok (.goto 4, 3) ∧ decode cX12_strip 17 = .ok (.iconst 1, 1) := by decide +kernel
theorem e_X12_strip_1 : decode cX12_strip 18 = .ok (.istore 4, 2) ∧ decode cX12_strip 20 = .ok (.iload 4, 2) ∧ decode cX12_strip 22 = .ok (.ifCond .le 10, 3) ∧ decode cX12_strip 25 = .ok (.aload_n 0, 1) ∧ decode cX12_strip 26 = .ok (.iload 4, 2) ∧ decode cX12_strip 28 = .ok (.invokevirtual 93, 3) ∧ decode cX12_strip 31 = .ok (.ireturn, 1) ∧ decode cX12_strip 32 = .ok (.iconst 0, 1) ∧ decode cX12_strip 33 = .ok (.istore 5, 2) ∧ decode cX12_strip 35 = .ok (.iload 5, 2) := by decide +kernel
theorem e_X12_strip_2 : decode cX12_strip 37 = .ok (.aload_n 0, 1) ∧ decode cX12_strip 38 = .ok (.getfield 7, 3) ∧ decode cX12_strip 41 = .ok (.iconst 0, 1) ∧ decode cX12_strip 42 = .ok (.iaload, 1) ∧ decode cX12_strip 43 = .ok (.if_icmp .ge 30, 3) ∧ decode cX12_strip 46 = .ok (.aload_n 0, 1) ∧ decode cX12_strip 47 = .ok (.getfield 27, 3) ∧ decode cX12_strip 50 = .ok (.bipush 60, 2) ∧ decode cX12_strip 52 = .ok (.iload_n 3, 1) ∧ decode cX12_strip 53 = .ok (.imul, 1) := by decide +kernel
theorem e_X12_strip_3 : decode cX12_strip 54 = .ok (.iload 5, 2) ∧ decode cX12_strip 56 = .ok (.iadd, 1) ∧ decode cX12_strip 57 = .ok (.aload_n 0, 1) ∧ decode cX12_strip 58 = .ok (.iload_n 1, 1) ∧ decode cX12_strip 59 = .ok (.iload 5, 2) ∧ decode cX12_strip 61 = .ok (.iload_n 2, 1) ∧ decode cX12_strip 62 = .ok (.invokevirtual 474, 3) ∧ decode cX12_strip 65 = .ok (.i2l, 1) ∧ decode cX12_strip 66 = .ok (.lastore, 1) ∧ decode cX12_strip 67 = .ok (.iinc 5 1, 3) := by decide +kernel
theorem e_X12_strip_4 : decode cX12_strip 70 = .ok (.goto (-35), 3) ∧ decode cX12_strip 73 = .ok (.aload_n 0, 1) ∧ decode cX12_strip 74 = .ok (.aload_n 0, 1) ∧ decode cX12_strip 75 = .ok (.getfield 7, 3) ∧ decode cX12_strip 78 = .ok (.iconst 0, 1) ∧ decode cX12_strip 79 = .ok (.iaload, 1) ∧ decode cX12_strip 80 = .ok (.invokevirtual 97, 3) ∧ decode cX12_strip 83 = .ok (.ireturn, 1) := by decide +kernel
abbrev E_X12_strip_35 (G : Kg) (l1 l2 l3 l5 : Int) (σ : Kmem) (Q : Int → Kmem → Prop) : Prop := Ex G WM M_X12_strip 6 0 0 35 [(0, vA G 0), (1, vI l1), (2, vI l2), (3, vI l3), (5, vI l5)] [] σ Q
theorem S_X12_strip {G : Kg} {σ : Kmem} {Q : Int → Kmem → Prop} {l1 l2 l3 : Int}  (h : (rI l1 ∧ wf (σ 1)) ∧ ((¬ (sKt (σ 1) (l1)) → Q (-1) (kup σ 0 2 1)) ∧ ((sKt (σ 1) (l1)) → (wf (σ 1) ∧ (∀ i, 0 ≤ i → i < 4 → tOk (σ 4 i)) ∧ rI (l2) ∧ rI (l3)) ∧ (rI (sWSt (σ 1) (σ 4) (l2) (l3))) ∧ ((sWSt (σ 1) (σ 4) (l2) (l3) ≤ 0 → E_X12_strip_35 G l1 l2 l3 0 σ Q) ∧ (0 < sWSt (σ 1) (σ 4) (l2) (l3) → Q (-1) (kup σ 0 2 (sWSt (σ 1) (σ 4) (l2) (l3)))))))) : Run G WM M_X12_strip 6 0 0 [vA G 0, vI l1, vI l2, vI l3] σ Q := by
  refine Run.of (by decide +kernel) (by show (4 : Nat) ≤ 6; decide) ?_
  show Ex G WM M_X12_strip 6 0 0 0 [(0, vA G 0), (1, vI l1), (2, vI l2), (3, vI l3)] [] σ Q
  refine R_aload_n e_X12_strip_0.1 0 rfl ?_
  refine R_iload_n e_X12_strip_0.2.1 1 rfl ?_
  obtain ⟨q3, h⟩ := h
  refine R_callV (mc := 0) (ms := 0) (mc' := 0) (ms' := 0) (M' := M_X12_isKite) (d' := 0) (as := [vI l1]) (st := []) 12 1 e_X12_strip_0.2.2.1 (kCVof m_X12_isKite l_X12_343) rfl (by decide) km_0 (by decide) (by decide) rfl rfl (by show (0 : Nat) ≤ 8; decide) ?_
  refine Run.mono (P_X12_isKite q3) (fun rr ss e => ?_)
  obtain ⟨e1, e2⟩ := e
  refine R_eqs (st2 := [vI (kb (sKt (σ 1) (l1)))]) (σ2 := σ) (by rw [e1]; rfl) e2 ?_
  refine R_if_eq 17 e_X12_strip_0.2.2.2.1 (by decide) (kb_r _) (fun q => ?_) (fun q => ?_)
  · replace h := h.1 (kb_f q)
    refine R_iconst e_X12_strip_0.2.2.2.2.2.2.2.2.2 ?_
    refine R_istore (ls2 := [(4, vI 1), (0, vA G 0), (1, vI l1), (2, vI l2), (3, vI l3)]) e_X12_strip_1.1 (by decide) rfl ?_
    refine R_iload e_X12_strip_1.2.1 0 rfl ?_
    refine R_if_le 32 e_X12_strip_1.2.2.1 (by decide) (by decide)  (fun q => absurd q (by decide)) (fun q => ?_)
    refine R_aload_n e_X12_strip_1.2.2.2.1 1 rfl ?_
    refine R_iload e_X12_strip_1.2.2.2.2.1 0 rfl ?_
    refine R_callV (mc := 0) (ms := 0) (mc' := 0) (ms' := 0) (M' := M_X12_refuse) (d' := 0) (as := [vI 1]) (st := []) 12 1 e_X12_strip_1.2.2.2.2.2.1 (kCVof m_X12_refuse l_X12_93) rfl (by decide) km_0 (by decide) (by decide) rfl rfl (by show (0 : Nat) ≤ 8; decide) ?_
    refine S_X12_refuse ?_
    refine R_eqs (st2 := [vI (-1)]) (σ2 := (kup σ 0 2 1)) rfl rfl ?_
    exact R_ireturn e_X12_strip_1.2.2.2.2.2.2.1 rfl h
  · replace h := h.2 (kb_t q)
    refine R_aload_n e_X12_strip_0.2.2.2.2.1 0 rfl ?_
    refine R_iload_n e_X12_strip_0.2.2.2.2.2.1 2 rfl ?_
    refine R_iload_n e_X12_strip_0.2.2.2.2.2.2.1 3 rfl ?_
    obtain ⟨q8, h⟩ := h
    refine R_callV (mc := 0) (ms := 0) (mc' := 0) (ms' := 0) (M' := M_X12_wrongStrip) (d' := 1) (as := [vI l2, vI l3]) (st := []) 12 2 e_X12_strip_0.2.2.2.2.2.2.2.1 (kCVof m_X12_wrongStrip l_X12_471) rfl (by decide) km_0 (by decide) (by decide) rfl rfl (by show (0 : Nat) ≤ 8; decide) ?_
    refine Run.mono (P_X12_wrongStrip q8) (fun rr ss e => ?_)
    obtain ⟨e1, e2⟩ := e
    refine R_eqs (st2 := [vI (sWSt (σ 1) (σ 4) (l2) (l3))]) (σ2 := σ) (by rw [e1]; rfl) e2 ?_
    refine R_goto 18 e_X12_strip_0.2.2.2.2.2.2.2.2.1 (by decide) ?_
    refine R_istore (ls2 := [(4, vI (sWSt (σ 1) (σ 4) (l2) (l3))), (0, vA G 0), (1, vI l1), (2, vI l2), (3, vI l3)]) e_X12_strip_1.1 (by decide) rfl ?_
    refine R_iload e_X12_strip_1.2.1 0 rfl ?_
    obtain ⟨q9, h⟩ := h
    refine R_if_le 32 e_X12_strip_1.2.2.1 (by decide) q9  (fun q => ?_) (fun q => ?_)
    · replace h := h.1 q
      refine R_iconst e_X12_strip_1.2.2.2.2.2.2.2.1 ?_
      refine R_istore (ls2 := [(5, vI 0), (4, vI (sWSt (σ 1) (σ 4) (l2) (l3))), (0, vA G 0), (1, vI l1), (2, vI l2), (3, vI l3)]) e_X12_strip_1.2.2.2.2.2.2.2.2.1 (by decide) rfl ?_
      refine R_ls (ls2 := [(0, vA G 0), (1, vI l1), (2, vI l2), (3, vI l3), (5, vI 0)]) [2, 3, 4, 5, 0] rfl ?_
      exact h
    · replace h := h.2 q
      refine R_aload_n e_X12_strip_1.2.2.2.1 1 rfl ?_
      refine R_iload e_X12_strip_1.2.2.2.2.1 0 rfl ?_
      refine R_callV (mc := 0) (ms := 0) (mc' := 0) (ms' := 0) (M' := M_X12_refuse) (d' := 0) (as := [vI (sWSt (σ 1) (σ 4) (l2) (l3))]) (st := []) 12 1 e_X12_strip_1.2.2.2.2.2.1 (kCVof m_X12_refuse l_X12_93) rfl (by decide) km_0 (by decide) (by decide) rfl rfl (by show (0 : Nat) ≤ 8; decide) ?_
      refine S_X12_refuse ?_
      refine R_eqs (st2 := [vI (-1)]) (σ2 := (kup σ 0 2 (sWSt (σ 1) (σ 4) (l2) (l3)))) rfl rfl ?_
      exact R_ireturn e_X12_strip_1.2.2.2.2.2.2.1 rfl h
theorem S_X12_strip_35 {G : Kg} {σ : Kmem} {Q : Int → Kmem → Prop} {l1 l2 l3 l5 : Int}  (h : (rI l5) ∧ (rI (σ 1 0)) ∧ ((σ 1 0 ≤ l5 → Q (σ 1 0) (kup σ 0 2 0)) ∧ (l5 < σ 1 0 → (wf (σ 1) ∧ sKt (σ 1) (l1) ∧ ((0 : Int) ≤ l5 ∧ (l5 : Int) ≤ 100) ∧ (0 : Int) ≤ l2 ∧ (l2 : Int) ≤ 100) ∧ (rI (sStrip (σ 1) (l1) (l5) (l2))) ∧ (0 ≤ (60 * l3) + l5 ∧ (60 * l3) + l5 < 240) ∧ E_X12_strip_35 G l1 l2 l3 (l5 + 1) (kup σ 5 ((60 * l3) + l5) (sStrip (σ 1) (l1) (l5) (l2))) Q))) : E_X12_strip_35 G l1 l2 l3 l5 σ Q := by
  refine R_iload e_X12_strip_1.2.2.2.2.2.2.2.2.2 4 rfl ?_
  refine R_aload_n e_X12_strip_2.1 0 rfl ?_
  refine R_getA 12 0 1 e_X12_strip_2.2.1 f_X12_7 km_0 (fun _ _ => rfl) rm_0_0 (by decide) ?_
  refine R_iconst e_X12_strip_2.2.2.1 ?_
  refine R_iald 3598 e_X12_strip_2.2.2.2.1 kma_1 (by decide) ?_
  obtain ⟨q12, h⟩ := h
  obtain ⟨q13, h⟩ := h
  refine R_icmp_ge 73 e_X12_strip_2.2.2.2.2.1 (by decide) q12 q13 (fun q => ?_) (fun q => ?_)
  · replace h := h.1 q
    refine R_aload_n e_X12_strip_4.2.1 0 rfl ?_
    refine R_aload_n e_X12_strip_4.2.2.1 0 rfl ?_
    refine R_getA 12 0 1 e_X12_strip_4.2.2.2.1 f_X12_7 km_0 (fun _ _ => rfl) rm_0_0 (by decide) ?_
    refine R_iconst e_X12_strip_4.2.2.2.2.1 ?_
    refine R_iald 3598 e_X12_strip_4.2.2.2.2.2.1 kma_1 (by decide) ?_
    refine R_callV (mc := 0) (ms := 0) (mc' := 0) (ms' := 0) (M' := M_X12_gives) (d' := 0) (as := [vI (σ 1 0)]) (st := []) 12 1 e_X12_strip_4.2.2.2.2.2.2.1 (kCVof m_X12_gives l_X12_97) rfl (by decide) km_0 (by decide) (by decide) rfl rfl (by show (0 : Nat) ≤ 8; decide) ?_
    refine S_X12_gives ?_
    refine R_eqs (st2 := [vI (σ 1 0)]) (σ2 := (kup σ 0 2 0)) rfl rfl ?_
    exact R_ireturn e_X12_strip_4.2.2.2.2.2.2.2 rfl h
  · replace h := h.2 q
    refine R_aload_n e_X12_strip_2.2.2.2.2.2.1 0 rfl ?_
    refine R_getA 12 7 5 e_X12_strip_2.2.2.2.2.2.2.1 f_X12_27 km_0 (fun _ _ => rfl) rm_0_7 (by decide) ?_
    refine R_bipush e_X12_strip_2.2.2.2.2.2.2.2.1 (by decide) ?_
    refine R_iload_n e_X12_strip_2.2.2.2.2.2.2.2.2.1 3 rfl ?_
    refine R_imul e_X12_strip_2.2.2.2.2.2.2.2.2.2 ?_
    refine R_iload e_X12_strip_3.1 4 rfl ?_
    refine R_iadd e_X12_strip_3.2.1 ?_
    refine R_aload_n e_X12_strip_3.2.2.1 0 rfl ?_
    refine R_iload_n e_X12_strip_3.2.2.2.1 1 rfl ?_
    refine R_iload e_X12_strip_3.2.2.2.2.1 4 rfl ?_
    refine R_iload_n e_X12_strip_3.2.2.2.2.2.1 2 rfl ?_
    obtain ⟨q18, h⟩ := h
    refine R_callV (mc := 0) (ms := 0) (mc' := 0) (ms' := 0) (M' := M_X12_stripAt) (d' := 5) (as := [vI l1, vI l5, vI l2]) (st := [vI ((60 * l3) + l5), vA G 5]) 12 3 e_X12_strip_3.2.2.2.2.2.2.1 (kCVof m_X12_stripAt l_X12_474) rfl (by decide) km_0 (by decide) (by decide) rfl rfl (by show (2 : Nat) ≤ 8; decide) ?_
    refine Run.mono (P_X12_stripAt q18) (fun rr ss e => ?_)
    obtain ⟨e1, e2⟩ := e
    refine R_eqs (st2 := [vI (sStrip (σ 1) (l1) (l5) (l2)), vI ((60 * l3) + l5), vA G 5]) (σ2 := σ) (by rw [e1]; rfl) e2 ?_
    obtain ⟨q19, h⟩ := h
    refine R_i2l e_X12_strip_3.2.2.2.2.2.2.2.1 q19 ?_
    obtain ⟨q20, h⟩ := h
    refine R_last 240 WM_ok e_X12_strip_3.2.2.2.2.2.2.2.2.1 kma_5 q20 ?_
    refine R_iinc (ls2 := [(5, vI (l5 + 1)), (0, vA G 0), (1, vI l1), (2, vI l2), (3, vI l3)]) e_X12_strip_3.2.2.2.2.2.2.2.2.2 4 rfl (by decide) rfl ?_
    refine R_goto 35 e_X12_strip_4.1 (by decide) ?_
    refine R_ls (ls2 := [(0, vA G 0), (1, vI l1), (2, vI l2), (3, vI l3), (5, vI (l5 + 1))]) [1, 2, 3, 4, 0] rfl ?_
    exact h
/-! KiteLandModel.suspects(II)I -/
theorem e_X12_suspects_0 : decode cX12_suspects 0 = .ok (.aload_n 0, 1) ∧ decode cX12_suspects 1 = .ok (.iload_n 1, 1) ∧ decode cX12_suspects 2 = .ok (.iload_n 2, 1) ∧ decode cX12_suspects 3 = .ok (.invokevirtual 471, 3) ∧ decode cX12_suspects 6 = .ok (.istore_n 3, 1) ∧ decode cX12_suspects 7 = .ok (.iload_n 3, 1) ∧ decode cX12_suspects 8 = .ok (.ifCond .le 9, 3) ∧ decode cX12_suspects 11 = .ok (.aload_n 0, 1) ∧ decode cX12_suspects 12 = .ok (.iload_n 3, 1) ∧ decode cX12_suspects 13 = .ok (.invokevirtual 93, 3) := by decide +kernel
theorem e_X12_suspects_1 : decode cX12_suspects 16 = .ok (.ireturn, 1) ∧ decode cX12_suspects 17 = .ok (.iconst 0, 1) ∧ decode cX12_suspects 18 = .ok (.istore 4, 2) ∧ decode cX12_suspects 20 = .ok (.iconst 0, 1) ∧ decode cX12_suspects 21 = .ok (.istore 5, 2) ∧ decode cX12_suspects 23 = .ok (.iload 5, 2) ∧ decode cX12_suspects 25 = .ok (.aload_n 0, 1) ∧ decode cX12_suspects 26 = .ok (.getfield 7, 3) ∧ decode cX12_suspects 29 = .ok (.iconst 2, 1) ∧ decode cX12_suspects 30 = .ok (.iaload, 1) := by decide +kernel
theorem e_X12_suspects_2 : decode cX12_suspects 31 = .ok (.if_icmp .ge 88, 3) ∧ decode cX12_suspects 34 = .ok (.iconst 1, 1) ∧ decode cX12_suspects 35 = .ok (.istore 6, 2) ∧ decode cX12_suspects 37 = .ok (.iconst 0, 1) ∧ decode cX12_suspects 38 = .ok (.istore 7, 2) ∧ decode cX12_suspects 40 = .ok (.iload 7, 2) ∧ decode cX12_suspects 42 = .ok (.aload_n 0, 1) ∧ decode cX12_suspects 43 = .ok (.getfield 7, 3) ∧ decode cX12_suspects 46 = .ok (.iconst 0, 1) ∧ decode cX12_suspects 47 = .ok (.iaload, 1) := by decide +kernel
theorem e_X12_suspects_3 : decode cX12_suspects 48 = .ok (.if_icmp .ge 47, 3) ∧ decode cX12_suspects 51 = .ok (.iload 6, 2) ∧ decode cX12_suspects 53 = .ok (.ifCond .eq 33, 3) ∧ decode cX12_suspects 56 = .ok (.aload_n 0, 1) ∧ decode cX12_suspects 57 = .ok (.getfield 27, 3) ∧ decode cX12_suspects 60 = .ok (.bipush 60, 2) ∧ decode cX12_suspects 62 = .ok (.iload_n 2, 1) ∧ decode cX12_suspects 63 = .ok (.imul, 1) ∧ decode cX12_suspects 64 = .ok (.iload 7, 2) ∧ decode cX12_suspects 66 = .ok (.iadd, 1) := by decide +kernel
theorem e_X12_suspects_4 : decode cX12_suspects 67 = .ok (.laload, 1) ∧ decode cX12_suspects 68 = .ok (.aload_n 0, 1) ∧ decode cX12_suspects 69 = .ok (.iload 5, 2) ∧ decode cX12_suspects 71 = .ok (.iload 7, 2) ∧ decode cX12_suspects 73 = .ok (.iload_n 1, 1) ∧ decode cX12_suspects 74 = .ok (.invokevirtual 474, 3) ∧ decode cX12_suspects 77 = .ok (.i2l, 1) ∧ decode cX12_suspects 78 = .ok (.lcmp, 1) ∧ decode cX12_suspects 79 = .ok (.ifCond .ne 7, 3) ∧ decode cX12_suspects 82 = .ok (.iconst 1, 1) := by decide +kernel
theorem e_X12_suspects_5 : decode cX12_suspects 83 = .ok (.goto 4, 3) ∧ decode cX12_suspects 86 = .ok (.iconst 0, 1) ∧ decode cX12_suspects 87 = .ok (.istore 6, 2) ∧ decode cX12_suspects 89 = .ok (.iinc 7 1, 3) ∧ decode cX12_suspects 92 = .ok (.goto (-52), 3) ∧ decode cX12_suspects 95 = .ok (.iload 4, 2) ∧ decode cX12_suspects 97 = .ok (.iload 6, 2) ∧ decode cX12_suspects 99 = .ok (.ifCond .eq 10, 3) ∧ decode cX12_suspects 102 = .ok (.iconst 1, 1) ∧ decode cX12_suspects 103 = .ok (.iload 5, 2) := by decide +kernel
theorem e_X12_suspects_6 : decode cX12_suspects 105 = .ok (.ishl, 1) ∧ decode cX12_suspects 106 = .ok (.goto 4, 3) ∧ decode cX12_suspects 109 = .ok (.iconst 0, 1) ∧ decode cX12_suspects 110 = .ok (.ior, 1) ∧ decode cX12_suspects 111 = .ok (.istore 4, 2) ∧ decode cX12_suspects 113 = .ok (.iinc 5 1, 3) ∧ decode cX12_suspects 116 = .ok (.goto (-93), 3) ∧ decode cX12_suspects 119 = .ok (.aload_n 0, 1) ∧ decode cX12_suspects 120 = .ok (.iload 4, 2) ∧ decode cX12_suspects 122 = .ok (.invokevirtual 97, 3) := by decide +kernel
theorem e_X12_suspects_7 : decode cX12_suspects 125 = .ok (.ireturn, 1) := by decide +kernel
abbrev E_X12_suspects_23 (G : Kg) (l1 l2 l4 l5 : Int) (σ : Kmem) (Q : Int → Kmem → Prop) : Prop := Ex G WM M_X12_suspects 6 0 0 23 [(0, vA G 0), (1, vI l1), (2, vI l2), (4, vI l4), (5, vI l5)] [] σ Q
abbrev E_X12_suspects_40 (G : Kg) (l1 l2 l4 l5 l6 l7 : Int) (σ : Kmem) (Q : Int → Kmem → Prop) : Prop := Ex G WM M_X12_suspects 6 0 0 40 [(0, vA G 0), (1, vI l1), (2, vI l2), (4, vI l4), (5, vI l5), (6, vI l6), (7, vI l7)] [] σ Q
theorem S_X12_suspects {G : Kg} {σ : Kmem} {Q : Int → Kmem → Prop} {l1 l2 : Int}  (h : (wf (σ 1) ∧ (∀ i, 0 ≤ i → i < 4 → tOk (σ 4 i)) ∧ rI (l1) ∧ rI (l2)) ∧ (rI (sWSt (σ 1) (σ 4) (l1) (l2))) ∧ ((sWSt (σ 1) (σ 4) (l1) (l2) ≤ 0 → E_X12_suspects_23 G l1 l2 0 0 σ Q) ∧ (0 < sWSt (σ 1) (σ 4) (l1) (l2) → Q (-1) (kup σ 0 2 (sWSt (σ 1) (σ 4) (l1) (l2)))))) : Run G WM M_X12_suspects 6 0 0 [vA G 0, vI l1, vI l2] σ Q := by
  refine Run.of (by decide +kernel) (by show (3 : Nat) ≤ 8; decide) ?_
  show Ex G WM M_X12_suspects 6 0 0 0 [(0, vA G 0), (1, vI l1), (2, vI l2)] [] σ Q
  refine R_aload_n e_X12_suspects_0.1 0 rfl ?_
  refine R_iload_n e_X12_suspects_0.2.1 1 rfl ?_
  refine R_iload_n e_X12_suspects_0.2.2.1 2 rfl ?_
  obtain ⟨q3, h⟩ := h
  refine R_callV (mc := 0) (ms := 0) (mc' := 0) (ms' := 0) (M' := M_X12_wrongStrip) (d' := 1) (as := [vI l1, vI l2]) (st := []) 12 2 e_X12_suspects_0.2.2.2.1 (kCVof m_X12_wrongStrip l_X12_471) rfl (by decide) km_0 (by decide) (by decide) rfl rfl (by show (0 : Nat) ≤ 8; decide) ?_
  refine Run.mono (P_X12_wrongStrip q3) (fun rr ss e => ?_)
  obtain ⟨e1, e2⟩ := e
  refine R_eqs (st2 := [vI (sWSt (σ 1) (σ 4) (l1) (l2))]) (σ2 := σ) (by rw [e1]; rfl) e2 ?_
  refine R_istore_n (ls2 := [(3, vI (sWSt (σ 1) (σ 4) (l1) (l2))), (0, vA G 0), (1, vI l1), (2, vI l2)]) e_X12_suspects_0.2.2.2.2.1 (by decide) rfl ?_
  refine R_iload_n e_X12_suspects_0.2.2.2.2.2.1 0 rfl ?_
  obtain ⟨q4, h⟩ := h
  refine R_if_le 17 e_X12_suspects_0.2.2.2.2.2.2.1 (by decide) q4  (fun q => ?_) (fun q => ?_)
  · replace h := h.1 q
    refine R_iconst e_X12_suspects_1.2.1 ?_
    refine R_istore (ls2 := [(4, vI 0), (3, vI (sWSt (σ 1) (σ 4) (l1) (l2))), (0, vA G 0), (1, vI l1), (2, vI l2)]) e_X12_suspects_1.2.2.1 (by decide) rfl ?_
    refine R_iconst e_X12_suspects_1.2.2.2.1 ?_
    refine R_istore (ls2 := [(5, vI 0), (4, vI 0), (3, vI (sWSt (σ 1) (σ 4) (l1) (l2))), (0, vA G 0), (1, vI l1), (2, vI l2)]) e_X12_suspects_1.2.2.2.2.1 (by decide) rfl ?_
    refine R_ls (ls2 := [(0, vA G 0), (1, vI l1), (2, vI l2), (4, vI 0), (5, vI 0)]) [3, 4, 5, 1, 0] rfl ?_
    exact h
  · replace h := h.2 q
    refine R_aload_n e_X12_suspects_0.2.2.2.2.2.2.2.1 1 rfl ?_
    refine R_iload_n e_X12_suspects_0.2.2.2.2.2.2.2.2.1 0 rfl ?_
    refine R_callV (mc := 0) (ms := 0) (mc' := 0) (ms' := 0) (M' := M_X12_refuse) (d' := 0) (as := [vI (sWSt (σ 1) (σ 4) (l1) (l2))]) (st := []) 12 1 e_X12_suspects_0.2.2.2.2.2.2.2.2.2 (kCVof m_X12_refuse l_X12_93) rfl (by decide) km_0 (by decide) (by decide) rfl rfl (by show (0 : Nat) ≤ 8; decide) ?_
    refine S_X12_refuse ?_
    refine R_eqs (st2 := [vI (-1)]) (σ2 := (kup σ 0 2 (sWSt (σ 1) (σ 4) (l1) (l2)))) rfl rfl ?_
    exact R_ireturn e_X12_suspects_1.1 rfl h
theorem S_X12_suspects_23 {G : Kg} {σ : Kmem} {Q : Int → Kmem → Prop} {l1 l2 l4 l5 : Int}  (h : (rI l5) ∧ (rI (σ 1 2)) ∧ ((σ 1 2 ≤ l5 → Q l4 (kup σ 0 2 0)) ∧ (l5 < σ 1 2 → E_X12_suspects_40 G l1 l2 l4 l5 1 0 σ Q))) : E_X12_suspects_23 G l1 l2 l4 l5 σ Q := by
  refine R_iload e_X12_suspects_1.2.2.2.2.2.1 4 rfl ?_
  refine R_aload_n e_X12_suspects_1.2.2.2.2.2.2.1 0 rfl ?_
  refine R_getA 12 0 1 e_X12_suspects_1.2.2.2.2.2.2.2.1 f_X12_7 km_0 (fun _ _ => rfl) rm_0_0 (by decide) ?_
  refine R_iconst e_X12_suspects_1.2.2.2.2.2.2.2.2.1 ?_
  refine R_iald 3598 e_X12_suspects_1.2.2.2.2.2.2.2.2.2 kma_1 (by decide) ?_
  obtain ⟨q7, h⟩ := h
  obtain ⟨q8, h⟩ := h
  refine R_icmp_ge 119 e_X12_suspects_2.1 (by decide) q7 q8 (fun q => ?_) (fun q => ?_)
  · replace h := h.1 q
    refine R_aload_n e_X12_suspects_6.2.2.2.2.2.2.2.1 0 rfl ?_
    refine R_iload e_X12_suspects_6.2.2.2.2.2.2.2.2.1 3 rfl ?_
    refine R_callV (mc := 0) (ms := 0) (mc' := 0) (ms' := 0) (M' := M_X12_gives) (d' := 0) (as := [vI l4]) (st := []) 12 1 e_X12_suspects_6.2.2.2.2.2.2.2.2.2 (kCVof m_X12_gives l_X12_97) rfl (by decide) km_0 (by decide) (by decide) rfl rfl (by show (0 : Nat) ≤ 8; decide) ?_
    refine S_X12_gives ?_
    refine R_eqs (st2 := [vI l4]) (σ2 := (kup σ 0 2 0)) rfl rfl ?_
    exact R_ireturn e_X12_suspects_7 rfl h
  · replace h := h.2 q
    refine R_iconst e_X12_suspects_2.2.1 ?_
    refine R_istore (ls2 := [(6, vI 1), (0, vA G 0), (1, vI l1), (2, vI l2), (4, vI l4), (5, vI l5)]) e_X12_suspects_2.2.2.1 (by decide) rfl ?_
    refine R_iconst e_X12_suspects_2.2.2.2.1 ?_
    refine R_istore (ls2 := [(7, vI 0), (6, vI 1), (0, vA G 0), (1, vI l1), (2, vI l2), (4, vI l4), (5, vI l5)]) e_X12_suspects_2.2.2.2.2.1 (by decide) rfl ?_
    refine R_ls (ls2 := [(0, vA G 0), (1, vI l1), (2, vI l2), (4, vI l4), (5, vI l5), (6, vI 1), (7, vI 0)]) [2, 3, 4, 5, 6, 1, 0] rfl ?_
    exact h
theorem S_X12_suspects_40 {G : Kg} {σ : Kmem} {Q : Int → Kmem → Prop} {l1 l2 l4 l5 l6 l7 : Int}  (h : (rI l7) ∧ (rI (σ 1 0)) ∧ ((σ 1 0 ≤ l7 → (rI l6) ∧ ((l6 = 0 → E_X12_suspects_23 G l1 l2 (kor l4 0) (l5 + 1) σ Q) ∧ (l6 ≠ 0 → E_X12_suspects_23 G l1 l2 (kor l4 (kshl 1 l5)) (l5 + 1) σ Q))) ∧ (l7 < σ 1 0 → (rI l6) ∧ ((l6 = 0 → E_X12_suspects_40 G l1 l2 l4 l5 0 (l7 + 1) σ Q) ∧ (l6 ≠ 0 → (0 ≤ (60 * l2) + l7 ∧ (60 * l2) + l7 < 240) ∧ (wf (σ 1) ∧ sKt (σ 1) (l5) ∧ ((0 : Int) ≤ l7 ∧ (l7 : Int) ≤ 100) ∧ (0 : Int) ≤ l1 ∧ (l1 : Int) ≤ 100) ∧ (rI (sStrip (σ 1) (l5) (l7) (l1))) ∧ (rL (σ 5 ((60 * l2) + l7))) ∧ (rL (sStrip (σ 1) (l5) (l7) (l1))) ∧ ((σ 5 ((60 * l2) + l7) ≠ sStrip (σ 1) (l5) (l7) (l1) → E_X12_suspects_40 G l1 l2 l4 l5 0 (l7 + 1) σ Q) ∧ (σ 5 ((60 * l2) + l7) = sStrip (σ 1) (l5) (l7) (l1) → E_X12_suspects_40 G l1 l2 l4 l5 1 (l7 + 1) σ Q))))))) : E_X12_suspects_40 G l1 l2 l4 l5 l6 l7 σ Q := by
  refine R_iload e_X12_suspects_2.2.2.2.2.2.1 6 rfl ?_
  refine R_aload_n e_X12_suspects_2.2.2.2.2.2.2.1 0 rfl ?_
  refine R_getA 12 0 1 e_X12_suspects_2.2.2.2.2.2.2.2.1 f_X12_7 km_0 (fun _ _ => rfl) rm_0_0 (by decide) ?_
  refine R_iconst e_X12_suspects_2.2.2.2.2.2.2.2.2.1 ?_
  refine R_iald 3598 e_X12_suspects_2.2.2.2.2.2.2.2.2.2 kma_1 (by decide) ?_
  obtain ⟨q11, h⟩ := h
  obtain ⟨q12, h⟩ := h
  refine R_icmp_ge 95 e_X12_suspects_3.1 (by decide) q11 q12 (fun q => ?_) (fun q => ?_)
  · replace h := h.1 q
    refine R_iload e_X12_suspects_5.2.2.2.2.2.1 3 rfl ?_
    refine R_iload e_X12_suspects_5.2.2.2.2.2.2.1 5 rfl ?_
    obtain ⟨q13, h⟩ := h
    refine R_if_eq 109 e_X12_suspects_5.2.2.2.2.2.2.2.1 (by decide) q13  (fun q => ?_) (fun q => ?_)
    · replace h := h.1 q
      refine R_iconst e_X12_suspects_6.2.2.1 ?_
      refine R_ior e_X12_suspects_6.2.2.2.1 ?_
      refine R_istore (ls2 := [(4, vI (kor l4 0)), (0, vA G 0), (1, vI l1), (2, vI l2), (5, vI l5), (6, vI l6), (7, vI l7)]) e_X12_suspects_6.2.2.2.2.1 (by decide) rfl ?_
      refine R_iinc (ls2 := [(5, vI (l5 + 1)), (4, vI (kor l4 0)), (0, vA G 0), (1, vI l1), (2, vI l2), (6, vI l6), (7, vI l7)]) e_X12_suspects_6.2.2.2.2.2.1 4 rfl (by decide) rfl ?_
      refine R_goto 23 e_X12_suspects_6.2.2.2.2.2.2.1 (by decide) ?_
      refine R_ls (ls2 := [(0, vA G 0), (1, vI l1), (2, vI l2), (4, vI (kor l4 0)), (5, vI (l5 + 1))]) [2, 3, 4, 1, 0] rfl ?_
      exact h
    · replace h := h.2 q
      refine R_iconst e_X12_suspects_5.2.2.2.2.2.2.2.2.1 ?_
      refine R_iload e_X12_suspects_5.2.2.2.2.2.2.2.2.2 4 rfl ?_
      refine R_ishl e_X12_suspects_6.1 ?_
      refine R_goto 110 e_X12_suspects_6.2.1 (by decide) ?_
      refine R_ior e_X12_suspects_6.2.2.2.1 ?_
      refine R_istore (ls2 := [(4, vI (kor l4 (kshl 1 l5))), (0, vA G 0), (1, vI l1), (2, vI l2), (5, vI l5), (6, vI l6), (7, vI l7)]) e_X12_suspects_6.2.2.2.2.1 (by decide) rfl ?_
      refine R_iinc (ls2 := [(5, vI (l5 + 1)), (4, vI (kor l4 (kshl 1 l5))), (0, vA G 0), (1, vI l1), (2, vI l2), (6, vI l6), (7, vI l7)]) e_X12_suspects_6.2.2.2.2.2.1 4 rfl (by decide) rfl ?_
      refine R_goto 23 e_X12_suspects_6.2.2.2.2.2.2.1 (by decide) ?_
      refine R_ls (ls2 := [(0, vA G 0), (1, vI l1), (2, vI l2), (4, vI (kor l4 (kshl 1 l5))), (5, vI (l5 + 1))]) [2, 3, 4, 1, 0] rfl ?_
      exact h
  · replace h := h.2 q
    refine R_iload e_X12_suspects_3.2.1 5 rfl ?_
    obtain ⟨q14, h⟩ := h
    refine R_if_eq 86 e_X12_suspects_3.2.2.1 (by decide) q14  (fun q => ?_) (fun q => ?_)
    · replace h := h.1 q
      refine R_iconst e_X12_suspects_5.2.1 ?_
      refine R_istore (ls2 := [(6, vI 0), (0, vA G 0), (1, vI l1), (2, vI l2), (4, vI l4), (5, vI l5), (7, vI l7)]) e_X12_suspects_5.2.2.1 (by decide) rfl ?_
      refine R_iinc (ls2 := [(7, vI (l7 + 1)), (6, vI 0), (0, vA G 0), (1, vI l1), (2, vI l2), (4, vI l4), (5, vI l5)]) e_X12_suspects_5.2.2.2.1 6 rfl (by decide) rfl ?_
      refine R_goto 40 e_X12_suspects_5.2.2.2.2.1 (by decide) ?_
      refine R_ls (ls2 := [(0, vA G 0), (1, vI l1), (2, vI l2), (4, vI l4), (5, vI l5), (6, vI 0), (7, vI (l7 + 1))]) [2, 3, 4, 5, 6, 1, 0] rfl ?_
      exact h
    · replace h := h.2 q
      refine R_aload_n e_X12_suspects_3.2.2.2.1 0 rfl ?_
      refine R_getA 12 7 5 e_X12_suspects_3.2.2.2.2.1 f_X12_27 km_0 (fun _ _ => rfl) rm_0_7 (by decide) ?_
      refine R_bipush e_X12_suspects_3.2.2.2.2.2.1 (by decide) ?_
      refine R_iload_n e_X12_suspects_3.2.2.2.2.2.2.1 2 rfl ?_
      refine R_imul e_X12_suspects_3.2.2.2.2.2.2.2.1 ?_
      refine R_iload e_X12_suspects_3.2.2.2.2.2.2.2.2.1 6 rfl ?_
      refine R_iadd e_X12_suspects_3.2.2.2.2.2.2.2.2.2 ?_
      obtain ⟨q15, h⟩ := h
      refine R_lald 240 e_X12_suspects_4.1 kma_5 q15 ?_
      refine R_aload_n e_X12_suspects_4.2.1 0 rfl ?_
      refine R_iload e_X12_suspects_4.2.2.1 4 rfl ?_
      refine R_iload e_X12_suspects_4.2.2.2.1 6 rfl ?_
      refine R_iload_n e_X12_suspects_4.2.2.2.2.1 1 rfl ?_
      obtain ⟨q18, h⟩ := h
      refine R_callV (mc := 0) (ms := 0) (mc' := 0) (ms' := 0) (M' := M_X12_stripAt) (d' := 5) (as := [vI l5, vI l7, vI l1]) (st := [vL (σ 5 ((60 * l2) + l7))]) 12 3 e_X12_suspects_4.2.2.2.2.2.1 (kCVof m_X12_stripAt l_X12_474) rfl (by decide) km_0 (by decide) (by decide) rfl rfl (by show (2 : Nat) ≤ 8; decide) ?_
      refine Run.mono (P_X12_stripAt q18) (fun rr ss e => ?_)
      obtain ⟨e1, e2⟩ := e
      refine R_eqs (st2 := [vI (sStrip (σ 1) (l5) (l7) (l1)), vL (σ 5 ((60 * l2) + l7))]) (σ2 := σ) (by rw [e1]; rfl) e2 ?_
      obtain ⟨q19, h⟩ := h
      refine R_i2l e_X12_suspects_4.2.2.2.2.2.2.1 q19 ?_
      obtain ⟨q20, h⟩ := h
      obtain ⟨q21, h⟩ := h
      refine R_lcmp e_X12_suspects_4.2.2.2.2.2.2.2.1 q20 q21 ?_
      refine R_if_ne 86 e_X12_suspects_4.2.2.2.2.2.2.2.2.1 (by decide) (kcmp_r _ _) (fun q => ?_) (fun q => ?_)
      · replace h := h.1 (kcmp_ne_t.mp q)
        refine R_iconst e_X12_suspects_5.2.1 ?_
        refine R_istore (ls2 := [(6, vI 0), (0, vA G 0), (1, vI l1), (2, vI l2), (4, vI l4), (5, vI l5), (7, vI l7)]) e_X12_suspects_5.2.2.1 (by decide) rfl ?_
        refine R_iinc (ls2 := [(7, vI (l7 + 1)), (6, vI 0), (0, vA G 0), (1, vI l1), (2, vI l2), (4, vI l4), (5, vI l5)]) e_X12_suspects_5.2.2.2.1 6 rfl (by decide) rfl ?_
        refine R_goto 40 e_X12_suspects_5.2.2.2.2.1 (by decide) ?_
        refine R_ls (ls2 := [(0, vA G 0), (1, vI l1), (2, vI l2), (4, vI l4), (5, vI l5), (6, vI 0), (7, vI (l7 + 1))]) [2, 3, 4, 5, 6, 1, 0] rfl ?_
        exact h
      · replace h := h.2 (kcmp_ne_f.mp q)
        refine R_iconst e_X12_suspects_4.2.2.2.2.2.2.2.2.2 ?_
        refine R_goto 87 e_X12_suspects_5.1 (by decide) ?_
        refine R_istore (ls2 := [(6, vI 1), (0, vA G 0), (1, vI l1), (2, vI l2), (4, vI l4), (5, vI l5), (7, vI l7)]) e_X12_suspects_5.2.2.1 (by decide) rfl ?_
        refine R_iinc (ls2 := [(7, vI (l7 + 1)), (6, vI 1), (0, vA G 0), (1, vI l1), (2, vI l2), (4, vI l4), (5, vI l5)]) e_X12_suspects_5.2.2.2.1 6 rfl (by decide) rfl ?_
        refine R_goto 40 e_X12_suspects_5.2.2.2.2.1 (by decide) ?_
        refine R_ls (ls2 := [(0, vA G 0), (1, vI l1), (2, vI l2), (4, vI l4), (5, vI l5), (6, vI 1), (7, vI (l7 + 1))]) [2, 3, 4, 5, 6, 1, 0] rfl ?_
        exact h
/-! KiteLandModel.telling()I -/
theorem e_X12_telling_0 : decode cX12_telling 0 = .ok (.iconst (-1), 1) ∧ decode cX12_telling 1 = .ok (.istore_n 1, 1) ∧ decode cX12_telling 2 = .ok (.iconst (-1), 1) ∧ decode cX12_telling 3 = .ok (.istore_n 2, 1) ∧ decode cX12_telling 4 = .ok (.iconst 0, 1) ∧ decode cX12_telling 5 = .ok (.istore_n 3, 1) ∧ decode cX12_telling 6 = .ok (.iload_n 3, 1) ∧ decode cX12_telling 7 = .ok (.aload_n 0, 1) ∧ decode cX12_telling 8 = .ok (.getfield 7, 3) ∧ decode cX12_telling 11 = .ok (.iconst 1, 1) := by decide +kernel
theorem e_X12_telling_1 : decode cX12_telling 12 = .ok (.iaload, 1) ∧ decode cX12_telling 13 = .ok (.if_icmp .ge 30, 3) ∧ decode cX12_telling 16 = .ok (.aload_n 0, 1) ∧ decode cX12_telling 17 = .ok (.iload_n 3, 1) ∧ decode cX12_telling 18 = .ok (.invokevirtual 477, 3) ∧ decode cX12_telling 21 = .ok (.istore 4, 2) ∧ decode cX12_telling 23 = .ok (.iload 4, 2) ∧ decode cX12_telling 25 = .ok (.iload_n 2, 1) ∧ decode cX12_telling 26 = .ok (.if_icmp .gt 6, 3) ∧ decode cX12_telling 29 = .ok (.goto 8, 3) := by decide +kernel
theorem e_X12_telling_2 : decode cX12_telling 32 = .ok (.iload 4, 2) ∧ decode cX12_telling 34 = .ok (.istore_n 2, 1) ∧ decode cX12_telling 35 = .ok (.iload_n 3, 1) ∧ decode cX12_telling 36 = .ok (.istore_n 1, 1) ∧ decode cX12_telling 37 = .ok (.iinc 3 1, 3) ∧ decode cX12_telling 40 = .ok (.goto (-34), 3) ∧ decode cX12_telling 43 = .ok (.aload_n 0, 1) ∧ decode cX12_telling 44 = .ok (.iload_n 1, 1) ∧ decode cX12_telling 45 = .ok (.invokevirtual 358, 3) ∧ decode cX12_telling 48 = .ok (.ireturn, 1) := by decide +kernel
abbrev E_X12_telling_6 (G : Kg) (l1 l2 l3 : Int) (σ : Kmem) (Q : Int → Kmem → Prop) : Prop := Ex G WM M_X12_telling 7 0 0 6 [(0, vA G 0), (1, vI l1), (2, vI l2), (3, vI l3)] [] σ Q
theorem S_X12_telling {G : Kg} {σ : Kmem} {Q : Int → Kmem → Prop}  (h : E_X12_telling_6 G (-1) (-1) 0 σ Q) : Run G WM M_X12_telling 7 0 0 [vA G 0] σ Q := by
  refine Run.of (by decide +kernel) (by show (1 : Nat) ≤ 5; decide) ?_
  show Ex G WM M_X12_telling 7 0 0 0 [(0, vA G 0)] [] σ Q
  refine R_iconst e_X12_telling_0.1 ?_
  refine R_istore_n (ls2 := [(1, vI (-1)), (0, vA G 0)]) e_X12_telling_0.2.1 (by decide) rfl ?_
  refine R_iconst e_X12_telling_0.2.2.1 ?_
  refine R_istore_n (ls2 := [(2, vI (-1)), (1, vI (-1)), (0, vA G 0)]) e_X12_telling_0.2.2.2.1 (by decide) rfl ?_
  refine R_iconst e_X12_telling_0.2.2.2.2.1 ?_
  refine R_istore_n (ls2 := [(3, vI 0), (2, vI (-1)), (1, vI (-1)), (0, vA G 0)]) e_X12_telling_0.2.2.2.2.2.1 (by decide) rfl ?_
  refine R_ls (ls2 := [(0, vA G 0), (1, vI (-1)), (2, vI (-1)), (3, vI 0)]) [3, 2, 1, 0] rfl ?_
  exact h
theorem S_X12_telling_6 {G : Kg} {σ : Kmem} {Q : Int → Kmem → Prop} {l1 l2 l3 : Int}  (h : (rI l3) ∧ (rI (σ 1 1)) ∧ ((σ 1 1 ≤ l3 → (rI (l1)) ∧ Q l1 (kup σ 0 2 (kif ((l1 : Int) = -1) 6 0))) ∧ (l3 < σ 1 1 → (wf (σ 1) ∧ ((0 : Int) ≤ l3 ∧ (l3 : Int) < 100)) ∧ (rI (sStrips (σ 1) (l3) ((σ 1) 2).toNat)) ∧ (rI l2) ∧ ((l2 < sStrips (σ 1) (l3) ((σ 1) 2).toNat → E_X12_telling_6 G l3 (sStrips (σ 1) (l3) ((σ 1) 2).toNat) (l3 + 1) σ Q) ∧ (sStrips (σ 1) (l3) ((σ 1) 2).toNat ≤ l2 → E_X12_telling_6 G l1 l2 (l3 + 1) σ Q))))) : E_X12_telling_6 G l1 l2 l3 σ Q := by
  refine R_iload_n e_X12_telling_0.2.2.2.2.2.2.1 3 rfl ?_
  refine R_aload_n e_X12_telling_0.2.2.2.2.2.2.2.1 0 rfl ?_
  refine R_getA 12 0 1 e_X12_telling_0.2.2.2.2.2.2.2.2.1 f_X12_7 km_0 (fun _ _ => rfl) rm_0_0 (by decide) ?_
  refine R_iconst e_X12_telling_0.2.2.2.2.2.2.2.2.2 ?_
  refine R_iald 3598 e_X12_telling_1.1 kma_1 (by decide) ?_
  obtain ⟨q1, h⟩ := h
  obtain ⟨q2, h⟩ := h
  refine R_icmp_ge 43 e_X12_telling_1.2.1 (by decide) q1 q2 (fun q => ?_) (fun q => ?_)
  · replace h := h.1 q
    refine R_aload_n e_X12_telling_2.2.2.2.2.2.2.1 0 rfl ?_
    refine R_iload_n e_X12_telling_2.2.2.2.2.2.2.2.1 1 rfl ?_
    obtain ⟨q5, h⟩ := h
    refine R_callV (mc := 0) (ms := 0) (mc' := 0) (ms' := 0) (M' := M_X12_orNone) (d' := 1) (as := [vI l1]) (st := []) 12 1 e_X12_telling_2.2.2.2.2.2.2.2.2.1 (kCVof m_X12_orNone l_X12_358) rfl (by decide) km_0 (by decide) (by decide) rfl rfl (by show (0 : Nat) ≤ 8; decide) ?_
    refine Run.mono (P_X12_orNone q5) (fun rr ss e => ?_)
    obtain ⟨e1, e2⟩ := e
    refine R_eqs (st2 := [vI l1]) (σ2 := (kup σ 0 2 (kif ((l1 : Int) = -1) 6 0))) (by rw [e1]; rfl) e2 ?_
    exact R_ireturn e_X12_telling_2.2.2.2.2.2.2.2.2.2 rfl h
  · replace h := h.2 q
    refine R_aload_n e_X12_telling_1.2.2.1 0 rfl ?_
    refine R_iload_n e_X12_telling_1.2.2.2.1 3 rfl ?_
    obtain ⟨q8, h⟩ := h
    refine R_callV (mc := 0) (ms := 0) (mc' := 0) (ms' := 0) (M' := M_X12_stripsIn) (d' := 6) (as := [vI l3]) (st := []) 12 1 e_X12_telling_1.2.2.2.2.1 (kCVof m_X12_stripsIn l_X12_477) rfl (by decide) km_0 (by decide) (by decide) rfl rfl (by show (0 : Nat) ≤ 8; decide) ?_
    refine Run.mono (P_X12_stripsIn q8) (fun rr ss e => ?_)
    obtain ⟨e1, e2⟩ := e
    refine R_eqs (st2 := [vI (sStrips (σ 1) (l3) ((σ 1) 2).toNat)]) (σ2 := σ) (by rw [e1]; rfl) e2 ?_
    refine R_istore (ls2 := [(4, vI (sStrips (σ 1) (l3) ((σ 1) 2).toNat)), (0, vA G 0), (1, vI l1), (2, vI l2), (3, vI l3)]) e_X12_telling_1.2.2.2.2.2.1 (by decide) rfl ?_
    refine R_iload e_X12_telling_1.2.2.2.2.2.2.1 0 rfl ?_
    refine R_iload_n e_X12_telling_1.2.2.2.2.2.2.2.1 3 rfl ?_
    obtain ⟨q9, h⟩ := h
    obtain ⟨q10, h⟩ := h
    refine R_icmp_gt 32 e_X12_telling_1.2.2.2.2.2.2.2.2.1 (by decide) q9 q10 (fun q => ?_) (fun q => ?_)
    · replace h := h.1 q
      refine R_iload e_X12_telling_2.1 0 rfl ?_
      refine R_istore_n (ls2 := [(2, vI (sStrips (σ 1) (l3) ((σ 1) 2).toNat)), (4, vI (sStrips (σ 1) (l3) ((σ 1) 2).toNat)), (0, vA G 0), (1, vI l1), (3, vI l3)]) e_X12_telling_2.2.1 (by decide) rfl ?_
      refine R_iload_n e_X12_telling_2.2.2.1 4 rfl ?_
      refine R_istore_n (ls2 := [(1, vI l3), (2, vI (sStrips (σ 1) (l3) ((σ 1) 2).toNat)), (4, vI (sStrips (σ 1) (l3) ((σ 1) 2).toNat)), (0, vA G 0), (3, vI l3)]) e_X12_telling_2.2.2.2.1 (by decide) rfl ?_
      refine R_iinc (ls2 := [(3, vI (l3 + 1)), (1, vI l3), (2, vI (sStrips (σ 1) (l3) ((σ 1) 2).toNat)), (4, vI (sStrips (σ 1) (l3) ((σ 1) 2).toNat)), (0, vA G 0)]) e_X12_telling_2.2.2.2.2.1 4 rfl (by decide) rfl ?_
      refine R_goto 6 e_X12_telling_2.2.2.2.2.2.1 (by decide) ?_
      refine R_ls (ls2 := [(0, vA G 0), (1, vI l3), (2, vI (sStrips (σ 1) (l3) ((σ 1) 2).toNat)), (3, vI (l3 + 1))]) [4, 1, 2, 0] rfl ?_
      exact h
    · replace h := h.2 q
      refine R_goto 37 e_X12_telling_1.2.2.2.2.2.2.2.2.2 (by decide) ?_
      refine R_iinc (ls2 := [(3, vI (l3 + 1)), (4, vI (sStrips (σ 1) (l3) ((σ 1) 2).toNat)), (0, vA G 0), (1, vI l1), (2, vI l2)]) e_X12_telling_2.2.2.2.2.1 4 rfl (by decide) rfl ?_
      refine R_goto 6 e_X12_telling_2.2.2.2.2.2.1 (by decide) ?_
      refine R_ls (ls2 := [(0, vA G 0), (1, vI l1), (2, vI l2), (3, vI (l3 + 1))]) [2, 3, 4, 0] rfl ?_
      exact h
/-! KiteLandModel.strips(I)I -/
theorem e_X12_strips_0 : decode cX12_strips 0 = .ok (.aload_n 0, 1) ∧ decode cX12_strips 1 = .ok (.iload_n 1, 1) ∧ decode cX12_strips 2 = .ok (.invokevirtual 468, 3) ∧ decode cX12_strips 5 = .ok (.ifCond .eq 15, 3) ∧ decode cX12_strips 8 = .ok (.aload_n 0, 1) ∧ decode cX12_strips 9 = .ok (.aload_n 0, 1) ∧ decode cX12_strips 10 = .ok (.iload_n 1, 1) ∧ decode cX12_strips 11 = .ok (.invokevirtual 477, 3) ∧ decode cX12_strips 14 = .ok (.invokevirtual 97, 3) ∧ decode cX12_strips 17 = .ok (.goto 8, 3) := by decide +kernel
theorem e_X12_strips_1 : decode cX12_strips 20 = .ok (.aload_n 0, 1) ∧ decode cX12_strips 21 = .ok (.iconst 1, 1) ∧ decode cX12_strips 22 = .ok (.invokevirtual 93, 3) ∧ decode cX12_strips 25 = .ok (.ireturn, 1) := by decide +kernel
theorem S_X12_strips {G : Kg} {σ : Kmem} {Q : Int → Kmem → Prop} {l1 : Int}  (h : (rI (l1) ∧ wf (σ 1)) ∧ ((¬ (0 ≤ l1 ∧ (l1 : Int) < (σ 1) 1) → Q (-1) (kup σ 0 2 1)) ∧ ((0 ≤ l1 ∧ (l1 : Int) < (σ 1) 1) → (wf (σ 1) ∧ ((0 : Int) ≤ l1 ∧ (l1 : Int) < 100)) ∧ Q (sStrips (σ 1) (l1) ((σ 1) 2).toNat) (kup σ 0 2 0)))) : Run G WM M_X12_strips 7 0 0 [vA G 0, vI l1] σ Q := by
  refine Run.of (by decide +kernel) (by show (2 : Nat) ≤ 2; decide) ?_
  show Ex G WM M_X12_strips 7 0 0 0 [(0, vA G 0), (1, vI l1)] [] σ Q
  refine R_aload_n e_X12_strips_0.1 0 rfl ?_
  refine R_iload_n e_X12_strips_0.2.1 1 rfl ?_
  obtain ⟨q3, h⟩ := h
  refine R_callV (mc := 0) (ms := 0) (mc' := 0) (ms' := 0) (M' := M_X12_isRow) (d' := 0) (as := [vI l1]) (st := []) 12 1 e_X12_strips_0.2.2.1 (kCVof m_X12_isRow l_X12_468) rfl (by decide) km_0 (by decide) (by decide) rfl rfl (by show (0 : Nat) ≤ 8; decide) ?_
  refine Run.mono (P_X12_isRow q3) (fun rr ss e => ?_)
  obtain ⟨e1, e2⟩ := e
  refine R_eqs (st2 := [vI (kb (0 ≤ l1 ∧ (l1 : Int) < (σ 1) 1))]) (σ2 := σ) (by rw [e1]; rfl) e2 ?_
  refine R_if_eq 20 e_X12_strips_0.2.2.2.1 (by decide) (kb_r _) (fun q => ?_) (fun q => ?_)
  · replace h := h.1 (kb_f q)
    refine R_aload_n e_X12_strips_1.1 0 rfl ?_
    refine R_iconst e_X12_strips_1.2.1 ?_
    refine R_callV (mc := 0) (ms := 0) (mc' := 0) (ms' := 0) (M' := M_X12_refuse) (d' := 0) (as := [vI 1]) (st := []) 12 1 e_X12_strips_1.2.2.1 (kCVof m_X12_refuse l_X12_93) rfl (by decide) km_0 (by decide) (by decide) rfl rfl (by show (0 : Nat) ≤ 8; decide) ?_
    refine S_X12_refuse ?_
    refine R_eqs (st2 := [vI (-1)]) (σ2 := (kup σ 0 2 1)) rfl rfl ?_
    exact R_ireturn e_X12_strips_1.2.2.2 rfl h
  · replace h := h.2 (kb_t q)
    refine R_aload_n e_X12_strips_0.2.2.2.2.1 0 rfl ?_
    refine R_aload_n e_X12_strips_0.2.2.2.2.2.1 0 rfl ?_
    refine R_iload_n e_X12_strips_0.2.2.2.2.2.2.1 1 rfl ?_
    obtain ⟨q8, h⟩ := h
    refine R_callV (mc := 0) (ms := 0) (mc' := 0) (ms' := 0) (M' := M_X12_stripsIn) (d' := 6) (as := [vI l1]) (st := [vA G 0]) 12 1 e_X12_strips_0.2.2.2.2.2.2.2.1 (kCVof m_X12_stripsIn l_X12_477) rfl (by decide) km_0 (by decide) (by decide) rfl rfl (by show (1 : Nat) ≤ 8; decide) ?_
    refine Run.mono (P_X12_stripsIn q8) (fun rr ss e => ?_)
    obtain ⟨e1, e2⟩ := e
    refine R_eqs (st2 := [vI (sStrips (σ 1) (l1) ((σ 1) 2).toNat), vA G 0]) (σ2 := σ) (by rw [e1]; rfl) e2 ?_
    refine R_callV (mc := 0) (ms := 0) (mc' := 0) (ms' := 0) (M' := M_X12_gives) (d' := 0) (as := [vI (sStrips (σ 1) (l1) ((σ 1) 2).toNat)]) (st := []) 12 1 e_X12_strips_0.2.2.2.2.2.2.2.2.1 (kCVof m_X12_gives l_X12_97) rfl (by decide) km_0 (by decide) (by decide) rfl rfl (by show (0 : Nat) ≤ 8; decide) ?_
    refine S_X12_gives ?_
    refine R_eqs (st2 := [vI (sStrips (σ 1) (l1) ((σ 1) 2).toNat)]) (σ2 := (kup σ 0 2 0)) rfl rfl ?_
    refine R_goto 25 e_X12_strips_0.2.2.2.2.2.2.2.2.2 (by decide) ?_
    exact R_ireturn e_X12_strips_1.2.2.2 rfl h
/-! KiteLandModel.duel(III)I -/
theorem e_X12_duel_0 : decode cX12_duel 0 = .ok (.aload_n 0, 1) ∧ decode cX12_duel 1 = .ok (.iload_n 1, 1) ∧ decode cX12_duel 2 = .ok (.iload_n 2, 1) ∧ decode cX12_duel 3 = .ok (.invokevirtual 364, 3) ∧ decode cX12_duel 6 = .ok (.ifCond .eq 29, 3) ∧ decode cX12_duel 9 = .ok (.iload_n 3, 1) ∧ decode cX12_duel 10 = .ok (.i2l, 1) ∧ decode cX12_duel 11 = .ok (.lconst 0, 1) ∧ decode cX12_duel 12 = .ok (.ldc2_w 400, 3) ∧ decode cX12_duel 15 = .ok (.invokestatic 393, 3) := by decide +kernel
theorem e_X12_duel_1 : decode cX12_duel 18 = .ok (.ifCond .eq 17, 3) ∧ decode cX12_duel 21 = .ok (.aload_n 0, 1) ∧ decode cX12_duel 22 = .ok (.aload_n 0, 1) ∧ decode cX12_duel 23 = .ok (.iload_n 1, 1) ∧ decode cX12_duel 24 = .ok (.iload_n 2, 1) ∧ decode cX12_duel 25 = .ok (.iload_n 3, 1) ∧ decode cX12_duel 26 = .ok (.invokevirtual 487, 3) ∧ decode cX12_duel 29 = .ok (.invokevirtual 97, 3) ∧ decode cX12_duel 32 = .ok (.goto 8, 3) ∧ decode cX12_duel 35 = .ok (.aload_n 0, 1) := by decide +kernel
theorem e_X12_duel_2 : decode cX12_duel 36 = .ok (.iconst 1, 1) ∧ decode cX12_duel 37 = .ok (.invokevirtual 93, 3) ∧ decode cX12_duel 40 = .ok (.ireturn, 1) := by decide +kernel
theorem S_X12_duel {G : Kg} {σ : Kmem} {Q : Int → Kmem → Prop} {l1 l2 l3 : Int}  (h : ((rI (l1) ∧ rI (l2)) ∧ wf (σ 1)) ∧ ((¬ ((sKt (σ 1) (l1) ∧ sKt (σ 1) (l2)) ∧ l1 ≠ l2) → Q (-1) (kup σ 0 2 1)) ∧ (((sKt (σ 1) (l1) ∧ sKt (σ 1) (l2)) ∧ l1 ≠ l2) → (rI l3) ∧ (rL l3 ∧ rL 0 ∧ rL 4) ∧ ((¬ ((0 : Int) ≤ l3 ∧ (l3 : Int) ≤ 4) → Q (-1) (kup σ 0 2 1)) ∧ (((0 : Int) ≤ l3 ∧ (l3 : Int) ≤ 4) → Run G WM M_X12_duelled 9 0 0 [vA G 0, vI l1, vI l2, vI l3] σ (fun r12 s13 => Q r12 (kup s13 0 2 0))))))) : Run G WM M_X12_duel 10 0 0 [vA G 0, vI l1, vI l2, vI l3] σ Q := by
  refine Run.of (by decide +kernel) (by show (4 : Nat) ≤ 4; decide) ?_
  show Ex G WM M_X12_duel 10 0 0 0 [(0, vA G 0), (1, vI l1), (2, vI l2), (3, vI l3)] [] σ Q
  refine R_aload_n e_X12_duel_0.1 0 rfl ?_
  refine R_iload_n e_X12_duel_0.2.1 1 rfl ?_
  refine R_iload_n e_X12_duel_0.2.2.1 2 rfl ?_
  obtain ⟨q3, h⟩ := h
  refine R_callV (mc := 0) (ms := 0) (mc' := 0) (ms' := 0) (M' := M_X12_areTwo) (d' := 1) (as := [vI l1, vI l2]) (st := []) 12 2 e_X12_duel_0.2.2.2.1 (kCVof m_X12_areTwo l_X12_364) rfl (by decide) km_0 (by decide) (by decide) rfl rfl (by show (0 : Nat) ≤ 8; decide) ?_
  refine Run.mono (P_X12_areTwo q3) (fun rr ss e => ?_)
  obtain ⟨e1, e2⟩ := e
  refine R_eqs (st2 := [vI (kb ((sKt (σ 1) (l1) ∧ sKt (σ 1) (l2)) ∧ l1 ≠ l2))]) (σ2 := σ) (by rw [e1]; rfl) e2 ?_
  refine R_if_eq 35 e_X12_duel_0.2.2.2.2.1 (by decide) (kb_r _) (fun q => ?_) (fun q => ?_)
  · replace h := h.1 (kb_f q)
    refine R_aload_n e_X12_duel_1.2.2.2.2.2.2.2.2.2 0 rfl ?_
    refine R_iconst e_X12_duel_2.1 ?_
    refine R_callV (mc := 0) (ms := 0) (mc' := 0) (ms' := 0) (M' := M_X12_refuse) (d' := 0) (as := [vI 1]) (st := []) 12 1 e_X12_duel_2.2.1 (kCVof m_X12_refuse l_X12_93) rfl (by decide) km_0 (by decide) (by decide) rfl rfl (by show (0 : Nat) ≤ 8; decide) ?_
    refine S_X12_refuse ?_
    refine R_eqs (st2 := [vI (-1)]) (σ2 := (kup σ 0 2 1)) rfl rfl ?_
    exact R_ireturn e_X12_duel_2.2.2 rfl h
  · replace h := h.2 (kb_t q)
    refine R_iload_n e_X12_duel_0.2.2.2.2.2.1 3 rfl ?_
    obtain ⟨q6, h⟩ := h
    refine R_i2l e_X12_duel_0.2.2.2.2.2.2.1 q6 ?_
    refine R_lconst 0 e_X12_duel_0.2.2.2.2.2.2.2.1 (by decide) ?_
    refine R_ldc2 (4) k_X12_400 e_X12_duel_0.2.2.2.2.2.2.2.2.1 ?_
    obtain ⟨q9, h⟩ := h
    refine R_callS (mc := 0) (ms := 0) (mc' := 0) (ms' := 0) (M' := M_X12_isFrom) (d' := 0) (as := [vL l3, vL 0, vL 4]) (st := []) 3 e_X12_duel_0.2.2.2.2.2.2.2.2.2 (kCSof m_X12_isFrom l_X12_393) (by decide) (by decide) rfl rfl (by show (0 : Nat) ≤ 8; decide) ?_
    refine Run.mono (P_X12_isFrom q9) (fun rr ss e => ?_)
    obtain ⟨e1, e2⟩ := e
    refine R_eqs (st2 := [vI (kb ((0 : Int) ≤ l3 ∧ (l3 : Int) ≤ 4))]) (σ2 := σ) (by rw [e1]; rfl) e2 ?_
    refine R_if_eq 35 e_X12_duel_1.1 (by decide) (kb_r _) (fun q => ?_) (fun q => ?_)
    · replace h := h.1 (kb_f q)
      refine R_aload_n e_X12_duel_1.2.2.2.2.2.2.2.2.2 0 rfl ?_
      refine R_iconst e_X12_duel_2.1 ?_
      refine R_callV (mc := 0) (ms := 0) (mc' := 0) (ms' := 0) (M' := M_X12_refuse) (d' := 0) (as := [vI 1]) (st := []) 12 1 e_X12_duel_2.2.1 (kCVof m_X12_refuse l_X12_93) rfl (by decide) km_0 (by decide) (by decide) rfl rfl (by show (0 : Nat) ≤ 8; decide) ?_
      refine S_X12_refuse ?_
      refine R_eqs (st2 := [vI (-1)]) (σ2 := (kup σ 0 2 1)) rfl rfl ?_
      exact R_ireturn e_X12_duel_2.2.2 rfl h
    · replace h := h.2 (kb_t q)
      refine R_aload_n e_X12_duel_1.2.1 0 rfl ?_
      refine R_aload_n e_X12_duel_1.2.2.1 0 rfl ?_
      refine R_iload_n e_X12_duel_1.2.2.2.1 1 rfl ?_
      refine R_iload_n e_X12_duel_1.2.2.2.2.1 2 rfl ?_
      refine R_iload_n e_X12_duel_1.2.2.2.2.2.1 3 rfl ?_
      refine R_callV (mc := 0) (ms := 0) (mc' := 0) (ms' := 0) (M' := M_X12_duelled) (d' := 9) (as := [vI l1, vI l2, vI l3]) (st := [vA G 0]) 12 3 e_X12_duel_1.2.2.2.2.2.2.1 (kCVof m_X12_duelled l_X12_487) rfl (by decide) km_0 (by decide) (by decide) rfl rfl (by show (1 : Nat) ≤ 8; decide) ?_
      refine Run.mono h (fun r12 s13 h => ?_)
      refine R_eqs (st2 := [vI r12, vA G 0]) rfl rfl ?_
      refine R_callV (mc := 0) (ms := 0) (mc' := 0) (ms' := 0) (M' := M_X12_gives) (d' := 0) (as := [vI r12]) (st := []) 12 1 e_X12_duel_1.2.2.2.2.2.2.2.1 (kCVof m_X12_gives l_X12_97) rfl (by decide) km_0 (by decide) (by decide) rfl rfl (by show (0 : Nat) ≤ 8; decide) ?_
      refine S_X12_gives ?_
      refine R_eqs (st2 := [vI r12]) (σ2 := (kup s13 0 2 0)) rfl rfl ?_
      refine R_goto 40 e_X12_duel_1.2.2.2.2.2.2.2.2.1 (by decide) ?_
      exact R_ireturn e_X12_duel_2.2.2 rfl h
/-! KiteLandModel.duelStep(III)I -/
theorem e_X12_duelStep_0 : decode cX12_duelStep 0 = .ok (.aload_n 0, 1) ∧ decode cX12_duelStep 1 = .ok (.iload_n 1, 1) ∧ decode cX12_duelStep 2 = .ok (.iload_n 2, 1) ∧ decode cX12_duelStep 3 = .ok (.invokevirtual 364, 3) ∧ decode cX12_duelStep 6 = .ok (.ifCond .eq 15, 3) ∧ decode cX12_duelStep 9 = .ok (.iload_n 3, 1) ∧ decode cX12_duelStep 10 = .ok (.i2l, 1) ∧ decode cX12_duelStep 11 = .ok (.lconst 1, 1) ∧ decode cX12_duelStep 12 = .ok (.ldc2_w 400, 3) ∧ decode cX12_duelStep 15 = .ok (.invokestatic 393, 3) := by decide +kernel
theorem e_X12_duelStep_1 : decode cX12_duelStep 18 = .ok (.ifCond .ne 9, 3) ∧ decode cX12_duelStep 21 = .ok (.aload_n 0, 1) ∧ decode cX12_duelStep 22 = .ok (.iconst 1, 1) ∧ decode cX12_duelStep 23 = .ok (.invokevirtual 93, 3) ∧ decode cX12_duelStep 26 = .ok (.ireturn, 1) ∧ decode cX12_duelStep 27 = .ok (.aload_n 0, 1) ∧ decode cX12_duelStep 28 = .ok (.iload_n 1, 1) ∧ decode cX12_duelStep 29 = .ok (.iload_n 2, 1) ∧ decode cX12_duelStep 30 = .ok (.iload_n 3, 1) ∧ decode cX12_duelStep 31 = .ok (.invokevirtual 487, 3) := by decide +kernel
theorem e_X12_duelStep_2 : decode cX12_duelStep 34 = .ok (.pop, 1) ∧ decode cX12_duelStep 35 = .ok (.aload_n 0, 1) ∧ decode cX12_duelStep 36 = .ok (.aload_n 0, 1) ∧ decode cX12_duelStep 37 = .ok (.getfield 481, 3) ∧ decode cX12_duelStep 40 = .ok (.invokevirtual 97, 3) ∧ decode cX12_duelStep 43 = .ok (.ireturn, 1) := by decide +kernel
theorem S_X12_duelStep {G : Kg} {σ : Kmem} {Q : Int → Kmem → Prop} {l1 l2 l3 : Int}  (h : ((rI (l1) ∧ rI (l2)) ∧ wf (σ 1)) ∧ ((¬ ((sKt (σ 1) (l1) ∧ sKt (σ 1) (l2)) ∧ l1 ≠ l2) → Q (-1) (kup σ 0 2 1)) ∧ (((sKt (σ 1) (l1) ∧ sKt (σ 1) (l2)) ∧ l1 ≠ l2) → (rI l3) ∧ (rL l3 ∧ rL 1 ∧ rL 4) ∧ ((((1 : Int) ≤ l3 ∧ (l3 : Int) ≤ 4) → Run G WM M_X12_duelled 9 0 0 [vA G 0, vI l1, vI l2, vI l3] σ (fun r10 s11 => Q (s11 0 34) (kup s11 0 2 0))) ∧ (¬ ((1 : Int) ≤ l3 ∧ (l3 : Int) ≤ 4) → Q (-1) (kup σ 0 2 1)))))) : Run G WM M_X12_duelStep 10 0 0 [vA G 0, vI l1, vI l2, vI l3] σ Q := by
  refine Run.of (by decide +kernel) (by show (4 : Nat) ≤ 4; decide) ?_
  show Ex G WM M_X12_duelStep 10 0 0 0 [(0, vA G 0), (1, vI l1), (2, vI l2), (3, vI l3)] [] σ Q
  refine R_aload_n e_X12_duelStep_0.1 0 rfl ?_
  refine R_iload_n e_X12_duelStep_0.2.1 1 rfl ?_
  refine R_iload_n e_X12_duelStep_0.2.2.1 2 rfl ?_
  obtain ⟨q3, h⟩ := h
  refine R_callV (mc := 0) (ms := 0) (mc' := 0) (ms' := 0) (M' := M_X12_areTwo) (d' := 1) (as := [vI l1, vI l2]) (st := []) 12 2 e_X12_duelStep_0.2.2.2.1 (kCVof m_X12_areTwo l_X12_364) rfl (by decide) km_0 (by decide) (by decide) rfl rfl (by show (0 : Nat) ≤ 8; decide) ?_
  refine Run.mono (P_X12_areTwo q3) (fun rr ss e => ?_)
  obtain ⟨e1, e2⟩ := e
  refine R_eqs (st2 := [vI (kb ((sKt (σ 1) (l1) ∧ sKt (σ 1) (l2)) ∧ l1 ≠ l2))]) (σ2 := σ) (by rw [e1]; rfl) e2 ?_
  refine R_if_eq 21 e_X12_duelStep_0.2.2.2.2.1 (by decide) (kb_r _) (fun q => ?_) (fun q => ?_)
  · replace h := h.1 (kb_f q)
    refine R_aload_n e_X12_duelStep_1.2.1 0 rfl ?_
    refine R_iconst e_X12_duelStep_1.2.2.1 ?_
    refine R_callV (mc := 0) (ms := 0) (mc' := 0) (ms' := 0) (M' := M_X12_refuse) (d' := 0) (as := [vI 1]) (st := []) 12 1 e_X12_duelStep_1.2.2.2.1 (kCVof m_X12_refuse l_X12_93) rfl (by decide) km_0 (by decide) (by decide) rfl rfl (by show (0 : Nat) ≤ 8; decide) ?_
    refine S_X12_refuse ?_
    refine R_eqs (st2 := [vI (-1)]) (σ2 := (kup σ 0 2 1)) rfl rfl ?_
    exact R_ireturn e_X12_duelStep_1.2.2.2.2.1 rfl h
  · replace h := h.2 (kb_t q)
    refine R_iload_n e_X12_duelStep_0.2.2.2.2.2.1 3 rfl ?_
    obtain ⟨q6, h⟩ := h
    refine R_i2l e_X12_duelStep_0.2.2.2.2.2.2.1 q6 ?_
    refine R_lconst 1 e_X12_duelStep_0.2.2.2.2.2.2.2.1 (by decide) ?_
    refine R_ldc2 (4) k_X12_400 e_X12_duelStep_0.2.2.2.2.2.2.2.2.1 ?_
    obtain ⟨q9, h⟩ := h
    refine R_callS (mc := 0) (ms := 0) (mc' := 0) (ms' := 0) (M' := M_X12_isFrom) (d' := 0) (as := [vL l3, vL 1, vL 4]) (st := []) 3 e_X12_duelStep_0.2.2.2.2.2.2.2.2.2 (kCSof m_X12_isFrom l_X12_393) (by decide) (by decide) rfl rfl (by show (0 : Nat) ≤ 8; decide) ?_
    refine Run.mono (P_X12_isFrom q9) (fun rr ss e => ?_)
    obtain ⟨e1, e2⟩ := e
    refine R_eqs (st2 := [vI (kb ((1 : Int) ≤ l3 ∧ (l3 : Int) ≤ 4))]) (σ2 := σ) (by rw [e1]; rfl) e2 ?_
    refine R_if_ne 27 e_X12_duelStep_1.1 (by decide) (kb_r _) (fun q => ?_) (fun q => ?_)
    · replace h := h.1 (kb_t q)
      refine R_aload_n e_X12_duelStep_1.2.2.2.2.2.1 0 rfl ?_
      refine R_iload_n e_X12_duelStep_1.2.2.2.2.2.2.1 1 rfl ?_
      refine R_iload_n e_X12_duelStep_1.2.2.2.2.2.2.2.1 2 rfl ?_
      refine R_iload_n e_X12_duelStep_1.2.2.2.2.2.2.2.2.1 3 rfl ?_
      refine R_callV (mc := 0) (ms := 0) (mc' := 0) (ms' := 0) (M' := M_X12_duelled) (d' := 9) (as := [vI l1, vI l2, vI l3]) (st := []) 12 3 e_X12_duelStep_1.2.2.2.2.2.2.2.2.2 (kCVof m_X12_duelled l_X12_487) rfl (by decide) km_0 (by decide) (by decide) rfl rfl (by show (0 : Nat) ≤ 8; decide) ?_
      refine Run.mono h (fun r10 s11 h => ?_)
      refine R_eqs (st2 := [vI r10]) rfl rfl ?_
      refine R_pop e_X12_duelStep_2.1 rfl ?_
      refine R_aload_n e_X12_duelStep_2.2.1 0 rfl ?_
      refine R_aload_n e_X12_duelStep_2.2.2.1 0 rfl ?_
      refine R_getI 12 34 34 e_X12_duelStep_2.2.2.2.1 f_X12_481 km_0 (fun _ _ => rfl) rfl ?_
      refine R_callV (mc := 0) (ms := 0) (mc' := 0) (ms' := 0) (M' := M_X12_gives) (d' := 0) (as := [vI (s11 0 34)]) (st := []) 12 1 e_X12_duelStep_2.2.2.2.2.1 (kCVof m_X12_gives l_X12_97) rfl (by decide) km_0 (by decide) (by decide) rfl rfl (by show (0 : Nat) ≤ 8; decide) ?_
      refine S_X12_gives ?_
      refine R_eqs (st2 := [vI (s11 0 34)]) (σ2 := (kup s11 0 2 0)) rfl rfl ?_
      exact R_ireturn e_X12_duelStep_2.2.2.2.2.2 rfl h
    · replace h := h.2 (kb_f q)
      refine R_aload_n e_X12_duelStep_1.2.1 0 rfl ?_
      refine R_iconst e_X12_duelStep_1.2.2.1 ?_
      refine R_callV (mc := 0) (ms := 0) (mc' := 0) (ms' := 0) (M' := M_X12_refuse) (d' := 0) (as := [vI 1]) (st := []) 12 1 e_X12_duelStep_1.2.2.2.1 (kCVof m_X12_refuse l_X12_93) rfl (by decide) km_0 (by decide) (by decide) rfl rfl (by show (0 : Nat) ≤ 8; decide) ?_
      refine S_X12_refuse ?_
      refine R_eqs (st2 := [vI (-1)]) (σ2 := (kup σ 0 2 1)) rfl rfl ?_
      exact R_ireturn e_X12_duelStep_1.2.2.2.2.1 rfl h
/-! KiteLandModel.needed()I -/
theorem e_X12_needed_0 : decode cX12_needed 0 = .ok (.iconst (-1), 1) ∧ decode cX12_needed 1 = .ok (.istore_n 1, 1) ∧ decode cX12_needed 2 = .ok (.iconst 0, 1) ∧ decode cX12_needed 3 = .ok (.istore_n 2, 1) ∧ decode cX12_needed 4 = .ok (.iload_n 2, 1) ∧ decode cX12_needed 5 = .ok (.aload_n 0, 1) ∧ decode cX12_needed 6 = .ok (.getfield 7, 3) ∧ decode cX12_needed 9 = .ok (.iconst 2, 1) ∧ decode cX12_needed 10 = .ok (.iaload, 1) ∧ decode cX12_needed 11 = .ok (.if_icmp .ge 41, 3) := by decide +kernel
theorem e_X12_needed_1 : decode cX12_needed 14 = .ok (.aload_n 0, 1) ∧ decode cX12_needed 15 = .ok (.iload_n 2, 1) ∧ decode cX12_needed 16 = .ok (.aload_n 0, 1) ∧ decode cX12_needed 17 = .ok (.invokevirtual 325, 3) ∧ decode cX12_needed 20 = .ok (.invokevirtual 319, 3) ∧ decode cX12_needed 23 = .ok (.ifCond .eq 23, 3) ∧ decode cX12_needed 26 = .ok (.iload_n 1, 1) ∧ decode cX12_needed 27 = .ok (.iconst (-1), 1) ∧ decode cX12_needed 28 = .ok (.if_icmp .eq 16, 3) ∧ decode cX12_needed 31 = .ok (.aload_n 0, 1) := by decide +kernel
theorem e_X12_needed_2 : decode cX12_needed 32 = .ok (.iload_n 2, 1) ∧ decode cX12_needed 33 = .ok (.invokevirtual 490, 3) ∧ decode cX12_needed 36 = .ok (.aload_n 0, 1) ∧ decode cX12_needed 37 = .ok (.iload_n 1, 1) ∧ decode cX12_needed 38 = .ok (.invokevirtual 490, 3) ∧ decode cX12_needed 41 = .ok (.if_icmp .le 5, 3) ∧ decode cX12_needed 44 = .ok (.iload_n 2, 1) ∧ decode cX12_needed 45 = .ok (.istore_n 1, 1) ∧ decode cX12_needed 46 = .ok (.iinc 2 1, 3) ∧ decode cX12_needed 49 = .ok (.goto (-45), 3) := by decide +kernel
theorem e_X12_needed_3 : decode cX12_needed 52 = .ok (.aload_n 0, 1) ∧ decode cX12_needed 53 = .ok (.iload_n 1, 1) ∧ decode cX12_needed 54 = .ok (.invokevirtual 358, 3) ∧ decode cX12_needed 57 = .ok (.ireturn, 1) := by decide +kernel
abbrev E_X12_needed_4 (G : Kg) (l1 l2 : Int) (σ : Kmem) (Q : Int → Kmem → Prop) : Prop := Ex G WM M_X12_needed 7 0 0 4 [(0, vA G 0), (1, vI l1), (2, vI l2)] [] σ Q
theorem S_X12_needed {G : Kg} {σ : Kmem} {Q : Int → Kmem → Prop}  (h : E_X12_needed_4 G (-1) 0 σ Q) : Run G WM M_X12_needed 7 0 0 [vA G 0] σ Q := by
  refine Run.of (by decide +kernel) (by show (1 : Nat) ≤ 3; decide) ?_
  show Ex G WM M_X12_needed 7 0 0 0 [(0, vA G 0)] [] σ Q
  refine R_iconst e_X12_needed_0.1 ?_
  refine R_istore_n (ls2 := [(1, vI (-1)), (0, vA G 0)]) e_X12_needed_0.2.1 (by decide) rfl ?_
  refine R_iconst e_X12_needed_0.2.2.1 ?_
  refine R_istore_n (ls2 := [(2, vI 0), (1, vI (-1)), (0, vA G 0)]) e_X12_needed_0.2.2.2.1 (by decide) rfl ?_
  refine R_ls (ls2 := [(0, vA G 0), (1, vI (-1)), (2, vI 0)]) [2, 1, 0] rfl ?_
  exact h
theorem S_X12_needed_4 {G : Kg} {σ : Kmem} {Q : Int → Kmem → Prop} {l1 l2 : Int}  (h : (rI l2) ∧ (rI (σ 1 2)) ∧ ((σ 1 2 ≤ l2 → (rI (l1)) ∧ Q l1 (kup σ 0 2 (kif ((l1 : Int) = -1) 6 0))) ∧ (l2 < σ 1 2 → (0 ≤ σ 1 7 ∧ σ 1 7 ≤ 2147483647) ∧ (wf (σ 1) ∧ sKt (σ 1) (l2) ∧ sHr (((σ 1 7) % 12))) ∧ ((¬ (sUp (σ 1) (l2) (((σ 1 7) % 12))) → E_X12_needed_4 G l1 (l2 + 1) σ Q) ∧ ((sUp (σ 1) (l2) (((σ 1 7) % 12))) → (rI l1) ∧ ((l1 = -1 → E_X12_needed_4 G l2 (l2 + 1) σ Q) ∧ (l1 ≠ -1 → (wf (σ 1) ∧ sKt (σ 1) (l2)) ∧ (wf (σ 1) ∧ sKt (σ 1) (l1)) ∧ (rI (sLost (σ 1) (l2))) ∧ (rI (sLost (σ 1) (l1))) ∧ ((sLost (σ 1) (l2) ≤ sLost (σ 1) (l1) → E_X12_needed_4 G l1 (l2 + 1) σ Q) ∧ (sLost (σ 1) (l1) < sLost (σ 1) (l2) → E_X12_needed_4 G l2 (l2 + 1) σ Q))))))))) : E_X12_needed_4 G l1 l2 σ Q := by
  refine R_iload_n e_X12_needed_0.2.2.2.2.1 2 rfl ?_
  refine R_aload_n e_X12_needed_0.2.2.2.2.2.1 0 rfl ?_
  refine R_getA 12 0 1 e_X12_needed_0.2.2.2.2.2.2.1 f_X12_7 km_0 (fun _ _ => rfl) rm_0_0 (by decide) ?_
  refine R_iconst e_X12_needed_0.2.2.2.2.2.2.2.1 ?_
  refine R_iald 3598 e_X12_needed_0.2.2.2.2.2.2.2.2.1 kma_1 (by decide) ?_
  obtain ⟨q1, h⟩ := h
  obtain ⟨q2, h⟩ := h
  refine R_icmp_ge 52 e_X12_needed_0.2.2.2.2.2.2.2.2.2 (by decide) q1 q2 (fun q => ?_) (fun q => ?_)
  · replace h := h.1 q
    refine R_aload_n e_X12_needed_3.1 0 rfl ?_
    refine R_iload_n e_X12_needed_3.2.1 1 rfl ?_
    obtain ⟨q5, h⟩ := h
    refine R_callV (mc := 0) (ms := 0) (mc' := 0) (ms' := 0) (M' := M_X12_orNone) (d' := 1) (as := [vI l1]) (st := []) 12 1 e_X12_needed_3.2.2.1 (kCVof m_X12_orNone l_X12_358) rfl (by decide) km_0 (by decide) (by decide) rfl rfl (by show (0 : Nat) ≤ 8; decide) ?_
    refine Run.mono (P_X12_orNone q5) (fun rr ss e => ?_)
    obtain ⟨e1, e2⟩ := e
    refine R_eqs (st2 := [vI l1]) (σ2 := (kup σ 0 2 (kif ((l1 : Int) = -1) 6 0))) (by rw [e1]; rfl) e2 ?_
    exact R_ireturn e_X12_needed_3.2.2.2 rfl h
  · replace h := h.2 q
    refine R_aload_n e_X12_needed_1.1 0 rfl ?_
    refine R_iload_n e_X12_needed_1.2.1 2 rfl ?_
    refine R_aload_n e_X12_needed_1.2.2.1 0 rfl ?_
    refine R_callV (mc := 0) (ms := 0) (mc' := 0) (ms' := 0) (M' := M_X12_now) (d' := 0) (as := []) (st := [vI l2, vA G 0]) 12 0 e_X12_needed_1.2.2.2.1 (kCVof m_X12_now l_X12_325) rfl (by decide) km_0 (by decide) (by decide) rfl rfl (by show (2 : Nat) ≤ 8; decide) ?_
    obtain ⟨q8, h⟩ := h
    refine S_X12_now ⟨q8, ?_⟩
    refine R_eqs (st2 := [vI ((σ 1 7) % 12), vI l2, vA G 0]) (σ2 := σ) rfl rfl ?_
    obtain ⟨q11, h⟩ := h
    refine R_callV (mc := 0) (ms := 0) (mc' := 0) (ms' := 0) (M' := M_X12_isUp) (d' := 3) (as := [vI l2, vI ((σ 1 7) % 12)]) (st := []) 12 2 e_X12_needed_1.2.2.2.2.1 (kCVof m_X12_isUp l_X12_319) rfl (by decide) km_0 (by decide) (by decide) rfl rfl (by show (0 : Nat) ≤ 8; decide) ?_
    refine Run.mono (P_X12_isUp q11) (fun rr ss e => ?_)
    obtain ⟨e1, e2⟩ := e
    refine R_eqs (st2 := [vI (kb (sUp (σ 1) (l2) (((σ 1 7) % 12))))]) (σ2 := σ) (by rw [e1]; rfl) e2 ?_
    refine R_if_eq 46 e_X12_needed_1.2.2.2.2.2.1 (by decide) (kb_r _) (fun q => ?_) (fun q => ?_)
    · replace h := h.1 (kb_f q)
      refine R_iinc (ls2 := [(2, vI (l2 + 1)), (0, vA G 0), (1, vI l1)]) e_X12_needed_2.2.2.2.2.2.2.2.2.1 2 rfl (by decide) rfl ?_
      refine R_goto 4 e_X12_needed_2.2.2.2.2.2.2.2.2.2 (by decide) ?_
      refine R_ls (ls2 := [(0, vA G 0), (1, vI l1), (2, vI (l2 + 1))]) [1, 2, 0] rfl ?_
      exact h
    · replace h := h.2 (kb_t q)
      refine R_iload_n e_X12_needed_1.2.2.2.2.2.2.1 1 rfl ?_
      refine R_iconst e_X12_needed_1.2.2.2.2.2.2.2.1 ?_
      obtain ⟨q12, h⟩ := h
      refine R_icmp_eq 44 e_X12_needed_1.2.2.2.2.2.2.2.2.1 (by decide) q12 (by decide) (fun q => ?_) (fun q => ?_)
      · replace h := h.1 q
        refine R_iload_n e_X12_needed_2.2.2.2.2.2.2.1 2 rfl ?_
        refine R_istore_n (ls2 := [(1, vI l2), (0, vA G 0), (2, vI l2)]) e_X12_needed_2.2.2.2.2.2.2.2.1 (by decide) rfl ?_
        refine R_iinc (ls2 := [(2, vI (l2 + 1)), (1, vI l2), (0, vA G 0)]) e_X12_needed_2.2.2.2.2.2.2.2.2.1 2 rfl (by decide) rfl ?_
        refine R_goto 4 e_X12_needed_2.2.2.2.2.2.2.2.2.2 (by decide) ?_
        refine R_ls (ls2 := [(0, vA G 0), (1, vI l2), (2, vI (l2 + 1))]) [2, 1, 0] rfl ?_
        exact h
      · replace h := h.2 q
        refine R_aload_n e_X12_needed_1.2.2.2.2.2.2.2.2.2 0 rfl ?_
        refine R_iload_n e_X12_needed_2.1 2 rfl ?_
        obtain ⟨q15, h⟩ := h
        refine R_callV (mc := 0) (ms := 0) (mc' := 0) (ms' := 0) (M' := M_X12_lostBy) (d' := 6) (as := [vI l2]) (st := []) 12 1 e_X12_needed_2.2.1 (kCVof m_X12_lostBy l_X12_490) rfl (by decide) km_0 (by decide) (by decide) rfl rfl (by show (0 : Nat) ≤ 8; decide) ?_
        refine Run.mono (P_X12_lostBy q15) (fun rr ss e => ?_)
        obtain ⟨e1, e2⟩ := e
        refine R_eqs (st2 := [vI (sLost (σ 1) (l2))]) (σ2 := σ) (by rw [e1]; rfl) e2 ?_
        refine R_aload_n e_X12_needed_2.2.2.1 0 rfl ?_
        refine R_iload_n e_X12_needed_2.2.2.2.1 1 rfl ?_
        obtain ⟨q18, h⟩ := h
        refine R_callV (mc := 0) (ms := 0) (mc' := 0) (ms' := 0) (M' := M_X12_lostBy) (d' := 6) (as := [vI l1]) (st := [vI (sLost (σ 1) (l2))]) 12 1 e_X12_needed_2.2.2.2.2.1 (kCVof m_X12_lostBy l_X12_490) rfl (by decide) km_0 (by decide) (by decide) rfl rfl (by show (1 : Nat) ≤ 8; decide) ?_
        refine Run.mono (P_X12_lostBy q18) (fun rr ss e => ?_)
        obtain ⟨e1, e2⟩ := e
        refine R_eqs (st2 := [vI (sLost (σ 1) (l1)), vI (sLost (σ 1) (l2))]) (σ2 := σ) (by rw [e1]; rfl) e2 ?_
        obtain ⟨q19, h⟩ := h
        obtain ⟨q20, h⟩ := h
        refine R_icmp_le 46 e_X12_needed_2.2.2.2.2.2.1 (by decide) q19 q20 (fun q => ?_) (fun q => ?_)
        · replace h := h.1 q
          refine R_iinc (ls2 := [(2, vI (l2 + 1)), (0, vA G 0), (1, vI l1)]) e_X12_needed_2.2.2.2.2.2.2.2.2.1 2 rfl (by decide) rfl ?_
          refine R_goto 4 e_X12_needed_2.2.2.2.2.2.2.2.2.2 (by decide) ?_
          refine R_ls (ls2 := [(0, vA G 0), (1, vI l1), (2, vI (l2 + 1))]) [1, 2, 0] rfl ?_
          exact h
        · replace h := h.2 q
          refine R_iload_n e_X12_needed_2.2.2.2.2.2.2.1 2 rfl ?_
          refine R_istore_n (ls2 := [(1, vI l2), (0, vA G 0), (2, vI l2)]) e_X12_needed_2.2.2.2.2.2.2.2.1 (by decide) rfl ?_
          refine R_iinc (ls2 := [(2, vI (l2 + 1)), (1, vI l2), (0, vA G 0)]) e_X12_needed_2.2.2.2.2.2.2.2.2.1 2 rfl (by decide) rfl ?_
          refine R_goto 4 e_X12_needed_2.2.2.2.2.2.2.2.2.2 (by decide) ?_
          refine R_ls (ls2 := [(0, vA G 0), (1, vI l2), (2, vI (l2 + 1))]) [2, 1, 0] rfl ?_
          exact h
/-! KiteLandModel.share(I)Z -/
theorem e_X12_share_0 : decode cX12_share 0 = .ok (.aload_n 0, 1) ∧ decode cX12_share 1 = .ok (.iload_n 1, 1) ∧ decode cX12_share 2 = .ok (.invokevirtual 343, 3) ∧ decode cX12_share 5 = .ok (.ifCond .ne 9, 3) ∧ decode cX12_share 8 = .ok (.aload_n 0, 1) ∧ decode cX12_share 9 = .ok (.iconst 1, 1) ∧ decode cX12_share 10 = .ok (.invokevirtual 100, 3) ∧ decode cX12_share 13 = .ok (.ireturn, 1) ∧ decode cX12_share 14 = .ok (.iconst 0, 1) ∧ decode cX12_share 15 = .ok (.istore_n 2, 1) := by decide +kernel
theorem e_X12_share_1 : decode cX12_share 16 = .ok (.iconst 0, 1) ∧ decode cX12_share 17 = .ok (.istore_n 3, 1) ∧ decode cX12_share 18 = .ok (.iload_n 3, 1) ∧ decode cX12_share 19 = .ok (.aload_n 0, 1) ∧ decode cX12_share 20 = .ok (.getfield 7, 3) ∧ decode cX12_share 23 = .ok (.iconst 2, 1) ∧ decode cX12_share 24 = .ok (.iaload, 1) ∧ decode cX12_share 25 = .ok (.if_icmp .ge 18, 3) ∧ decode cX12_share 28 = .ok (.iload_n 2, 1) ∧ decode cX12_share 29 = .ok (.aload_n 0, 1) := by decide +kernel
theorem e_X12_share_2 : decode cX12_share 30 = .ok (.iload_n 3, 1) ∧ decode cX12_share 31 = .ok (.iconst 5, 1) ∧ decode cX12_share 32 = .ok (.invokevirtual 268, 3) ∧ decode cX12_share 35 = .ok (.iadd, 1) ∧ decode cX12_share 36 = .ok (.istore_n 2, 1) ∧ decode cX12_share 37 = .ok (.iinc 3 1, 3) ∧ decode cX12_share 40 = .ok (.goto (-22), 3) ∧ decode cX12_share 43 = .ok (.iload_n 2, 1) ∧ decode cX12_share 44 = .ok (.ifCond .ne 12, 3) ∧ decode cX12_share 47 = .ok (.aload_n 0, 1) := by decide +kernel
theorem e_X12_share_3 : decode cX12_share 48 = .ok (.bipush 6, 2) ∧ decode cX12_share 50 = .ok (.invokevirtual 100, 3) ∧ decode cX12_share 53 = .ok (.goto 16, 3) ∧ decode cX12_share 56 = .ok (.aload_n 0, 1) ∧ decode cX12_share 57 = .ok (.aload_n 0, 1) ∧ decode cX12_share 58 = .ok (.iload_n 1, 1) ∧ decode cX12_share 59 = .ok (.iconst 5, 1) ∧ decode cX12_share 60 = .ok (.invokevirtual 268, 3) ∧ decode cX12_share 63 = .ok (.i2l, 1) ∧ decode cX12_share 64 = .ok (.iload_n 2, 1) := by decide +kernel
theorem e_X12_share_4 : decode cX12_share 65 = .ok (.i2l, 1) ∧ decode cX12_share 66 = .ok (.invokevirtual 493, 3) ∧ decode cX12_share 69 = .ok (.ireturn, 1) := by decide +kernel
abbrev E_X12_share_18 (G : Kg) (l1 l2 l3 : Int) (σ : Kmem) (Q : Int → Kmem → Prop) : Prop := Ex G WM M_X12_share 2 0 0 18 [(0, vA G 0), (1, vI l1), (2, vI l2), (3, vI l3)] [] σ Q
theorem S_X12_share {G : Kg} {σ : Kmem} {Q : Int → Kmem → Prop} {l1 : Int}  (h : (rI l1 ∧ wf (σ 1)) ∧ (((sKt (σ 1) (l1)) → E_X12_share_18 G l1 0 0 σ Q) ∧ (¬ (sKt (σ 1) (l1)) → (rI (1)) ∧ Q (kb ((1 : Int) = 0)) (kup σ 0 2 (1))))) : Run G WM M_X12_share 2 0 0 [vA G 0, vI l1] σ Q := by
  refine Run.of (by decide +kernel) (by show (2 : Nat) ≤ 4; decide) ?_
  show Ex G WM M_X12_share 2 0 0 0 [(0, vA G 0), (1, vI l1)] [] σ Q
  refine R_aload_n e_X12_share_0.1 0 rfl ?_
  refine R_iload_n e_X12_share_0.2.1 1 rfl ?_
  obtain ⟨q3, h⟩ := h
  refine R_callV (mc := 0) (ms := 0) (mc' := 0) (ms' := 0) (M' := M_X12_isKite) (d' := 0) (as := [vI l1]) (st := []) 12 1 e_X12_share_0.2.2.1 (kCVof m_X12_isKite l_X12_343) rfl (by decide) km_0 (by decide) (by decide) rfl rfl (by show (0 : Nat) ≤ 8; decide) ?_
  refine Run.mono (P_X12_isKite q3) (fun rr ss e => ?_)
  obtain ⟨e1, e2⟩ := e
  refine R_eqs (st2 := [vI (kb (sKt (σ 1) (l1)))]) (σ2 := σ) (by rw [e1]; rfl) e2 ?_
  refine R_if_ne 14 e_X12_share_0.2.2.2.1 (by decide) (kb_r _) (fun q => ?_) (fun q => ?_)
  · replace h := h.1 (kb_t q)
    refine R_iconst e_X12_share_0.2.2.2.2.2.2.2.2.1 ?_
    refine R_istore_n (ls2 := [(2, vI 0), (0, vA G 0), (1, vI l1)]) e_X12_share_0.2.2.2.2.2.2.2.2.2 (by decide) rfl ?_
    refine R_iconst e_X12_share_1.1 ?_
    refine R_istore_n (ls2 := [(3, vI 0), (2, vI 0), (0, vA G 0), (1, vI l1)]) e_X12_share_1.2.1 (by decide) rfl ?_
    refine R_ls (ls2 := [(0, vA G 0), (1, vI l1), (2, vI 0), (3, vI 0)]) [2, 3, 1, 0] rfl ?_
    exact h
  · replace h := h.2 (kb_f q)
    refine R_aload_n e_X12_share_0.2.2.2.2.1 0 rfl ?_
    refine R_iconst e_X12_share_0.2.2.2.2.2.1 ?_
    obtain ⟨q6, h⟩ := h
    refine R_callV (mc := 0) (ms := 0) (mc' := 0) (ms' := 0) (M' := M_X12_is) (d' := 0) (as := [vI 1]) (st := []) 12 1 e_X12_share_0.2.2.2.2.2.2.1 (kCVof m_X12_is l_X12_100) rfl (by decide) km_0 (by decide) (by decide) rfl rfl (by show (0 : Nat) ≤ 8; decide) ?_
    refine Run.mono (P_X12_is q6) (fun rr ss e => ?_)
    obtain ⟨e1, e2⟩ := e
    refine R_eqs (st2 := [vI (kb ((1 : Int) = 0))]) (σ2 := (kup σ 0 2 (1))) (by rw [e1]; rfl) e2 ?_
    exact R_zreturn e_X12_share_0.2.2.2.2.2.2.2.1 rfl (kb_01 _) h
theorem S_X12_share_18 {G : Kg} {σ : Kmem} {Q : Int → Kmem → Prop} {l1 l2 l3 : Int}  (h : (rI l3) ∧ (rI (σ 1 2)) ∧ ((σ 1 2 ≤ l3 → (rI l2) ∧ ((l2 ≠ 0 → (0 ≤ (34 + (9 * l1)) + 5 ∧ (34 + (9 * l1)) + 5 < 3598) ∧ (rI (σ 1 ((34 + (9 * l1)) + 5))) ∧ Run G WM M_X12_tellsBy 1 0 0 [vA G 0, vL (σ 1 ((34 + (9 * l1)) + 5)), vL l2] σ (fun r16 s17 => (r16 = 0 ∨ r16 = 1) ∧ Q r16 s17)) ∧ (l2 = 0 → (rI (6)) ∧ Q (kb ((6 : Int) = 0)) (kup σ 0 2 (6))))) ∧ (l3 < σ 1 2 → (0 ≤ (34 + (9 * l3)) + 5 ∧ (34 + (9 * l3)) + 5 < 3598) ∧ E_X12_share_18 G l1 (l2 + (σ 1 ((34 + (9 * l3)) + 5))) (l3 + 1) σ Q))) : E_X12_share_18 G l1 l2 l3 σ Q := by
  refine R_iload_n e_X12_share_1.2.2.1 3 rfl ?_
  refine R_aload_n e_X12_share_1.2.2.2.1 0 rfl ?_
  refine R_getA 12 0 1 e_X12_share_1.2.2.2.2.1 f_X12_7 km_0 (fun _ _ => rfl) rm_0_0 (by decide) ?_
  refine R_iconst e_X12_share_1.2.2.2.2.2.1 ?_
  refine R_iald 3598 e_X12_share_1.2.2.2.2.2.2.1 kma_1 (by decide) ?_
  obtain ⟨q7, h⟩ := h
  obtain ⟨q8, h⟩ := h
  refine R_icmp_ge 43 e_X12_share_1.2.2.2.2.2.2.2.1 (by decide) q7 q8 (fun q => ?_) (fun q => ?_)
  · replace h := h.1 q
    refine R_iload_n e_X12_share_2.2.2.2.2.2.2.2.1 2 rfl ?_
    obtain ⟨q9, h⟩ := h
    refine R_if_ne 56 e_X12_share_2.2.2.2.2.2.2.2.2.1 (by decide) q9  (fun q => ?_) (fun q => ?_)
    · replace h := h.1 q
      refine R_aload_n e_X12_share_3.2.2.2.1 0 rfl ?_
      refine R_aload_n e_X12_share_3.2.2.2.2.1 0 rfl ?_
      refine R_iload_n e_X12_share_3.2.2.2.2.2.1 1 rfl ?_
      refine R_iconst e_X12_share_3.2.2.2.2.2.2.1 ?_
      refine R_callV (mc := 0) (ms := 0) (mc' := 0) (ms' := 0) (M' := M_X12_of) (d' := 1) (as := [vI l1, vI 5]) (st := [vA G 0]) 12 2 e_X12_share_3.2.2.2.2.2.2.2.1 (kCVof m_X12_of l_X12_268) rfl (by decide) km_0 (by decide) (by decide) rfl rfl (by show (1 : Nat) ≤ 8; decide) ?_
      obtain ⟨q14, h⟩ := h
      refine S_X12_of ⟨q14, ?_⟩
      refine R_eqs (st2 := [vI (σ 1 ((34 + (9 * l1)) + 5)), vA G 0]) (σ2 := σ) rfl rfl ?_
      obtain ⟨q15, h⟩ := h
      refine R_i2l e_X12_share_3.2.2.2.2.2.2.2.2.1 q15 ?_
      refine R_iload_n e_X12_share_3.2.2.2.2.2.2.2.2.2 2 rfl ?_
      refine R_i2l e_X12_share_4.1 q9 ?_
      refine R_callV (mc := 0) (ms := 0) (mc' := 0) (ms' := 0) (M' := M_X12_tellsBy) (d' := 1) (as := [vL (σ 1 ((34 + (9 * l1)) + 5)), vL l2]) (st := []) 12 2 e_X12_share_4.2.1 (kCVof m_X12_tellsBy l_X12_493) rfl (by decide) km_0 (by decide) (by decide) rfl rfl (by show (0 : Nat) ≤ 8; decide) ?_
      refine Run.mono h (fun r16 s17 h => ?_)
      refine R_eqs (st2 := [vI r16]) rfl rfl ?_
      obtain ⟨q18, h⟩ := h
      exact R_zreturn e_X12_share_4.2.2 rfl q18 h
    · replace h := h.2 q
      refine R_aload_n e_X12_share_2.2.2.2.2.2.2.2.2.2 0 rfl ?_
      refine R_bipush e_X12_share_3.1 (by decide) ?_
      obtain ⟨q21, h⟩ := h
      refine R_callV (mc := 0) (ms := 0) (mc' := 0) (ms' := 0) (M' := M_X12_is) (d' := 0) (as := [vI 6]) (st := []) 12 1 e_X12_share_3.2.1 (kCVof m_X12_is l_X12_100) rfl (by decide) km_0 (by decide) (by decide) rfl rfl (by show (0 : Nat) ≤ 8; decide) ?_
      refine Run.mono (P_X12_is q21) (fun rr ss e => ?_)
      obtain ⟨e1, e2⟩ := e
      refine R_eqs (st2 := [vI (kb ((6 : Int) = 0))]) (σ2 := (kup σ 0 2 (6))) (by rw [e1]; rfl) e2 ?_
      refine R_goto 69 e_X12_share_3.2.2.1 (by decide) ?_
      exact R_zreturn e_X12_share_4.2.2 rfl (kb_01 _) h
  · replace h := h.2 q
    refine R_iload_n e_X12_share_1.2.2.2.2.2.2.2.2.1 2 rfl ?_
    refine R_aload_n e_X12_share_1.2.2.2.2.2.2.2.2.2 0 rfl ?_
    refine R_iload_n e_X12_share_2.1 3 rfl ?_
    refine R_iconst e_X12_share_2.2.1 ?_
    refine R_callV (mc := 0) (ms := 0) (mc' := 0) (ms' := 0) (M' := M_X12_of) (d' := 1) (as := [vI l3, vI 5]) (st := [vI l2]) 12 2 e_X12_share_2.2.2.1 (kCVof m_X12_of l_X12_268) rfl (by decide) km_0 (by decide) (by decide) rfl rfl (by show (1 : Nat) ≤ 8; decide) ?_
    obtain ⟨q26, h⟩ := h
    refine S_X12_of ⟨q26, ?_⟩
    refine R_eqs (st2 := [vI (σ 1 ((34 + (9 * l3)) + 5)), vI l2]) (σ2 := σ) rfl rfl ?_
    refine R_iadd e_X12_share_2.2.2.2.1 ?_
    refine R_istore_n (ls2 := [(2, vI (l2 + (σ 1 ((34 + (9 * l3)) + 5)))), (0, vA G 0), (1, vI l1), (3, vI l3)]) e_X12_share_2.2.2.2.2.1 (by decide) rfl ?_
    refine R_iinc (ls2 := [(3, vI (l3 + 1)), (2, vI (l2 + (σ 1 ((34 + (9 * l3)) + 5)))), (0, vA G 0), (1, vI l1)]) e_X12_share_2.2.2.2.2.2.1 3 rfl (by decide) rfl ?_
    refine R_goto 18 e_X12_share_2.2.2.2.2.2.2.1 (by decide) ?_
    refine R_ls (ls2 := [(0, vA G 0), (1, vI l1), (2, vI (l2 + (σ 1 ((34 + (9 * l3)) + 5)))), (3, vI (l3 + 1))]) [2, 3, 1, 0] rfl ?_
    exact h
/-! KiteLandModel.shaded()Z -/
theorem e_X12_shaded_0 : decode cX12_shaded 0 = .ok (.aload_n 0, 1) ∧ decode cX12_shaded 1 = .ok (.invokevirtual 370, 3) ∧ decode cX12_shaded 4 = .ok (.ifCond .ne 10, 3) ∧ decode cX12_shaded 7 = .ok (.aload_n 0, 1) ∧ decode cX12_shaded 8 = .ok (.bipush 6, 2) ∧ decode cX12_shaded 10 = .ok (.invokevirtual 100, 3) ∧ decode cX12_shaded 13 = .ok (.ireturn, 1) ∧ decode cX12_shaded 14 = .ok (.iconst 0, 1) ∧ decode cX12_shaded 15 = .ok (.istore_n 1, 1) ∧ decode cX12_shaded 16 = .ok (.iconst 0, 1) := by decide +kernel
theorem e_X12_shaded_1 : decode cX12_shaded 17 = .ok (.istore_n 2, 1) ∧ decode cX12_shaded 18 = .ok (.iload_n 2, 1) ∧ decode cX12_shaded 19 = .ok (.bipush 12, 2) ∧ decode cX12_shaded 21 = .ok (.if_icmp .ge 23, 3) ∧ decode cX12_shaded 24 = .ok (.iload_n 1, 1) ∧ decode cX12_shaded 25 = .ok (.aload_n 0, 1) ∧ decode cX12_shaded 26 = .ok (.invokevirtual 370, 3) ∧ decode cX12_shaded 29 = .ok (.aload_n 0, 1) ∧ decode cX12_shaded 30 = .ok (.iconst (-1), 1) ∧ decode cX12_shaded 31 = .ok (.iload_n 2, 1) := by decide +kernel
theorem e_X12_shaded_2 : decode cX12_shaded 32 = .ok (.invokevirtual 361, 3) ∧ decode cX12_shaded 35 = .ok (.isub, 1) ∧ decode cX12_shaded 36 = .ok (.iadd, 1) ∧ decode cX12_shaded 37 = .ok (.istore_n 1, 1) ∧ decode cX12_shaded 38 = .ok (.iinc 2 1, 3) ∧ decode cX12_shaded 41 = .ok (.goto (-23), 3) ∧ decode cX12_shaded 44 = .ok (.aload_n 0, 1) ∧ decode cX12_shaded 45 = .ok (.iload_n 1, 1) ∧ decode cX12_shaded 46 = .ok (.i2l, 1) ∧ decode cX12_shaded 47 = .ok (.ldc2_w 497, 3) := by decide +kernel
theorem e_X12_shaded_3 : decode cX12_shaded 50 = .ok (.invokevirtual 493, 3) ∧ decode cX12_shaded 53 = .ok (.ireturn, 1) := by decide +kernel
abbrev E_X12_shaded_18 (G : Kg) (l1 l2 : Int) (σ : Kmem) (Q : Int → Kmem → Prop) : Prop := Ex G WM M_X12_shaded 8 0 0 18 [(0, vA G 0), (1, vI l1), (2, vI l2)] [] σ Q
theorem S_X12_shaded {G : Kg} {σ : Kmem} {Q : Int → Kmem → Prop}  (h : (rI ((σ 1 0) * (σ 1 1))) ∧ (((σ 1 0) * (σ 1 1) ≠ 0 → E_X12_shaded_18 G 0 0 σ Q) ∧ ((σ 1 0) * (σ 1 1) = 0 → (rI (6)) ∧ Q (kb ((6 : Int) = 0)) (kup σ 0 2 (6))))) : Run G WM M_X12_shaded 8 0 0 [vA G 0] σ Q := by
  refine Run.of (by decide +kernel) (by show (1 : Nat) ≤ 3; decide) ?_
  show Ex G WM M_X12_shaded 8 0 0 0 [(0, vA G 0)] [] σ Q
  refine R_aload_n e_X12_shaded_0.1 0 rfl ?_
  refine R_callV (mc := 0) (ms := 0) (mc' := 0) (ms' := 0) (M' := M_X12_fields) (d' := 0) (as := []) (st := []) 12 0 e_X12_shaded_0.2.1 (kCVof m_X12_fields l_X12_370) rfl (by decide) km_0 (by decide) (by decide) rfl rfl (by show (0 : Nat) ≤ 8; decide) ?_
  refine S_X12_fields ?_
  refine R_eqs (st2 := [vI ((σ 1 0) * (σ 1 1))]) (σ2 := σ) rfl rfl ?_
  obtain ⟨q3, h⟩ := h
  refine R_if_ne 14 e_X12_shaded_0.2.2.1 (by decide) q3  (fun q => ?_) (fun q => ?_)
  · replace h := h.1 q
    refine R_iconst e_X12_shaded_0.2.2.2.2.2.2.2.1 ?_
    refine R_istore_n (ls2 := [(1, vI 0), (0, vA G 0)]) e_X12_shaded_0.2.2.2.2.2.2.2.2.1 (by decide) rfl ?_
    refine R_iconst e_X12_shaded_0.2.2.2.2.2.2.2.2.2 ?_
    refine R_istore_n (ls2 := [(2, vI 0), (1, vI 0), (0, vA G 0)]) e_X12_shaded_1.1 (by decide) rfl ?_
    refine R_ls (ls2 := [(0, vA G 0), (1, vI 0), (2, vI 0)]) [2, 1, 0] rfl ?_
    exact h
  · replace h := h.2 q
    refine R_aload_n e_X12_shaded_0.2.2.2.1 0 rfl ?_
    refine R_bipush e_X12_shaded_0.2.2.2.2.1 (by decide) ?_
    obtain ⟨q6, h⟩ := h
    refine R_callV (mc := 0) (ms := 0) (mc' := 0) (ms' := 0) (M' := M_X12_is) (d' := 0) (as := [vI 6]) (st := []) 12 1 e_X12_shaded_0.2.2.2.2.2.1 (kCVof m_X12_is l_X12_100) rfl (by decide) km_0 (by decide) (by decide) rfl rfl (by show (0 : Nat) ≤ 8; decide) ?_
    refine Run.mono (P_X12_is q6) (fun rr ss e => ?_)
    obtain ⟨e1, e2⟩ := e
    refine R_eqs (st2 := [vI (kb ((6 : Int) = 0))]) (σ2 := (kup σ 0 2 (6))) (by rw [e1]; rfl) e2 ?_
    exact R_zreturn e_X12_shaded_0.2.2.2.2.2.2.1 rfl (kb_01 _) h
theorem S_X12_shaded_18 {G : Kg} {σ : Kmem} {Q : Int → Kmem → Prop} {l1 l2 : Int}  (h : (rI l2) ∧ ((12 ≤ l2 → (rI l1) ∧ Run G WM M_X12_tellsBy 1 0 0 [vA G 0, vL l1, vL 12] σ (fun r9 s10 => (r9 = 0 ∨ r9 = 1) ∧ Q r9 s10)) ∧ (l2 < 12 → (wf (σ 1) ∧ rI ((-1)) ∧ sHr (l2)) ∧ E_X12_shaded_18 G (l1 + (((σ 1 0) * (σ 1 1)) - (sEst (σ 1) ((-1)) (l2)))) (l2 + 1) σ Q))) : E_X12_shaded_18 G l1 l2 σ Q := by
  refine R_iload_n e_X12_shaded_1.2.1 2 rfl ?_
  refine R_bipush e_X12_shaded_1.2.2.1 (by decide) ?_
  obtain ⟨q7, h⟩ := h
  refine R_icmp_ge 44 e_X12_shaded_1.2.2.2.1 (by decide) q7 (by decide) (fun q => ?_) (fun q => ?_)
  · replace h := h.1 q
    refine R_aload_n e_X12_shaded_2.2.2.2.2.2.2.1 0 rfl ?_
    refine R_iload_n e_X12_shaded_2.2.2.2.2.2.2.2.1 1 rfl ?_
    obtain ⟨q8, h⟩ := h
    refine R_i2l e_X12_shaded_2.2.2.2.2.2.2.2.2.1 q8 ?_
    refine R_ldc2 (12) k_X12_497 e_X12_shaded_2.2.2.2.2.2.2.2.2.2 ?_
    refine R_callV (mc := 0) (ms := 0) (mc' := 0) (ms' := 0) (M' := M_X12_tellsBy) (d' := 1) (as := [vL l1, vL 12]) (st := []) 12 2 e_X12_shaded_3.1 (kCVof m_X12_tellsBy l_X12_493) rfl (by decide) km_0 (by decide) (by decide) rfl rfl (by show (0 : Nat) ≤ 8; decide) ?_
    refine Run.mono h (fun r9 s10 h => ?_)
    refine R_eqs (st2 := [vI r9]) rfl rfl ?_
    obtain ⟨q11, h⟩ := h
    exact R_zreturn e_X12_shaded_3.2 rfl q11 h
  · replace h := h.2 q
    refine R_iload_n e_X12_shaded_1.2.2.2.2.1 1 rfl ?_
    refine R_aload_n e_X12_shaded_1.2.2.2.2.2.1 0 rfl ?_
    refine R_callV (mc := 0) (ms := 0) (mc' := 0) (ms' := 0) (M' := M_X12_fields) (d' := 0) (as := []) (st := [vI l1]) 12 0 e_X12_shaded_1.2.2.2.2.2.2.1 (kCVof m_X12_fields l_X12_370) rfl (by decide) km_0 (by decide) (by decide) rfl rfl (by show (1 : Nat) ≤ 8; decide) ?_
    refine S_X12_fields ?_
    refine R_eqs (st2 := [vI ((σ 1 0) * (σ 1 1)), vI l1]) (σ2 := σ) rfl rfl ?_
    refine R_aload_n e_X12_shaded_1.2.2.2.2.2.2.2.1 0 rfl ?_
    refine R_iconst e_X12_shaded_1.2.2.2.2.2.2.2.2.1 ?_
    refine R_iload_n e_X12_shaded_1.2.2.2.2.2.2.2.2.2 2 rfl ?_
    obtain ⟨q16, h⟩ := h
    refine R_callV (mc := 0) (ms := 0) (mc' := 0) (ms' := 0) (M' := M_X12_estateOf) (d' := 7) (as := [vI (-1), vI l2]) (st := [vI ((σ 1 0) * (σ 1 1)), vI l1]) 12 2 e_X12_shaded_2.1 (kCVof m_X12_estateOf l_X12_361) rfl (by decide) km_0 (by decide) (by decide) rfl rfl (by show (2 : Nat) ≤ 8; decide) ?_
    refine Run.mono (P_X12_estateOf q16) (fun rr ss e => ?_)
    obtain ⟨e1, e2⟩ := e
    refine R_eqs (st2 := [vI (sEst (σ 1) ((-1)) (l2)), vI ((σ 1 0) * (σ 1 1)), vI l1]) (σ2 := σ) (by rw [e1]; rfl) e2 ?_
    refine R_isub e_X12_shaded_2.2.1 ?_
    refine R_iadd e_X12_shaded_2.2.2.1 ?_
    refine R_istore_n (ls2 := [(1, vI (l1 + (((σ 1 0) * (σ 1 1)) - (sEst (σ 1) ((-1)) (l2))))), (0, vA G 0), (2, vI l2)]) e_X12_shaded_2.2.2.2.1 (by decide) rfl ?_
    refine R_iinc (ls2 := [(2, vI (l2 + 1)), (1, vI (l1 + (((σ 1 0) * (σ 1 1)) - (sEst (σ 1) ((-1)) (l2))))), (0, vA G 0)]) e_X12_shaded_2.2.2.2.2.1 2 rfl (by decide) rfl ?_
    refine R_goto 18 e_X12_shaded_2.2.2.2.2.2.1 (by decide) ?_
    refine R_ls (ls2 := [(0, vA G 0), (1, vI (l1 + (((σ 1 0) * (σ 1 1)) - (sEst (σ 1) ((-1)) (l2))))), (2, vI (l2 + 1))]) [2, 1, 0] rfl ?_
    exact h
/-! KiteLandModel.live(I)I -/
theorem e_X12_live_0 : decode cX12_live 0 = .ok (.iload_n 1, 1) ∧ decode cX12_live 1 = .ok (.i2l, 1) ∧ decode cX12_live 2 = .ok (.lconst 0, 1) ∧ decode cX12_live 3 = .ok (.ldc2_w 524, 3) ∧ decode cX12_live 6 = .ok (.invokestatic 393, 3) ∧ decode cX12_live 9 = .ok (.ifCond .ne 9, 3) ∧ decode cX12_live 12 = .ok (.aload_n 0, 1) ∧ decode cX12_live 13 = .ok (.iconst 1, 1) ∧ decode cX12_live 14 = .ok (.invokevirtual 93, 3) ∧ decode cX12_live 17 = .ok (.ireturn, 1) := by decide +kernel
theorem e_X12_live_1 : decode cX12_live 18 = .ok (.aload_n 0, 1) ∧ decode cX12_live 19 = .ok (.getfield 7, 3) ∧ decode cX12_live 22 = .ok (.bipush 8, 2) ∧ decode cX12_live 24 = .ok (.iaload, 1) ∧ decode cX12_live 25 = .ok (.iconst (-1), 1) ∧ decode cX12_live 26 = .ok (.if_icmp .ne 10, 3) ∧ decode cX12_live 29 = .ok (.aload_n 0, 1) ∧ decode cX12_live 30 = .ok (.bipush 6, 2) ∧ decode cX12_live 32 = .ok (.invokevirtual 93, 3) ∧ decode cX12_live 35 = .ok (.ireturn, 1) := by decide +kernel
theorem e_X12_live_2 : decode cX12_live 36 = .ok (.aload_n 0, 1) ∧ decode cX12_live 37 = .ok (.iload_n 1, 1) ∧ decode cX12_live 38 = .ok (.invokevirtual 526, 3) ∧ decode cX12_live 41 = .ok (.iconst 0, 1) ∧ decode cX12_live 42 = .ok (.istore_n 2, 1) ∧ decode cX12_live 43 = .ok (.iload_n 2, 1) ∧ decode cX12_live 44 = .ok (.iconst 5, 1) ∧ decode cX12_live 45 = .ok (.if_icmp .ge 21, 3) ∧ decode cX12_live 48 = .ok (.aload_n 0, 1) ∧ decode cX12_live 49 = .ok (.getfield 80, 3) := by decide +kernel
theorem e_X12_live_3 : decode cX12_live 52 = .ok (.iload_n 2, 1) ∧ decode cX12_live 53 = .ok (.aload_n 0, 1) ∧ decode cX12_live 54 = .ok (.getfield 77, 3) ∧ decode cX12_live 57 = .ok (.iload_n 2, 1) ∧ decode cX12_live 58 = .ok (.iaload, 1) ∧ decode cX12_live 59 = .ok (.iastore, 1) ∧ decode cX12_live 60 = .ok (.iinc 2 1, 3) ∧ decode cX12_live 63 = .ok (.goto (-20), 3) ∧ decode cX12_live 66 = .ok (.aload_n 0, 1) ∧ decode cX12_live 67 = .ok (.iconst 1, 1) := by decide +kernel
theorem e_X12_live_4 : decode cX12_live 68 = .ok (.putfield 529, 3) ∧ decode cX12_live 71 = .ok (.aload_n 0, 1) ∧ decode cX12_live 72 = .ok (.aload_n 0, 1) ∧ decode cX12_live 73 = .ok (.getfield 512, 3) ∧ decode cX12_live 76 = .ok (.invokevirtual 97, 3) ∧ decode cX12_live 79 = .ok (.ireturn, 1) := by decide +kernel
abbrev E_X12_live_43 (G : Kg) (l2 : Int) (σ : Kmem) (Q : Int → Kmem → Prop) : Prop := Ex G WM M_X12_live 12 0 0 43 [(0, vA G 0), (2, vI l2)] [] σ Q
theorem S_X12_live {G : Kg} {σ : Kmem} {Q : Int → Kmem → Prop} {l1 : Int}  (h : (rI l1) ∧ (rL l1 ∧ rL 0 ∧ rL 9999) ∧ ((((0 : Int) ≤ l1 ∧ (l1 : Int) ≤ 9999) → (rI (σ 1 8)) ∧ ((σ 1 8 ≠ -1 → ((wf (σ 1) ∧ pwf (σ 1) ∧ (σ 1) 7 ≤ 9999) ∧ (0 : Int) ≤ (σ 1) 8 ∧ ((0 : Int) ≤ l1 ∧ (l1 : Int) ≤ 65535) ∧ lpR (σ 18)) ∧ E_X12_live_43 G 0 (sRun 300 0 (sBeg σ (l1))) Q) ∧ (σ 1 8 = -1 → Q (-1) (kup σ 0 2 6)))) ∧ (¬ ((0 : Int) ≤ l1 ∧ (l1 : Int) ≤ 9999) → Q (-1) (kup σ 0 2 1)))) : Run G WM M_X12_live 12 0 0 [vA G 0, vI l1] σ Q := by
  refine Run.of (by decide +kernel) (by show (2 : Nat) ≤ 3; decide) ?_
  show Ex G WM M_X12_live 12 0 0 0 [(0, vA G 0), (1, vI l1)] [] σ Q
  refine R_iload_n e_X12_live_0.1 1 rfl ?_
  obtain ⟨q1, h⟩ := h
  refine R_i2l e_X12_live_0.2.1 q1 ?_
  refine R_lconst 0 e_X12_live_0.2.2.1 (by decide) ?_
  refine R_ldc2 (9999) k_X12_524 e_X12_live_0.2.2.2.1 ?_
  obtain ⟨q4, h⟩ := h
  refine R_callS (mc := 0) (ms := 0) (mc' := 0) (ms' := 0) (M' := M_X12_isFrom) (d' := 0) (as := [vL l1, vL 0, vL 9999]) (st := []) 3 e_X12_live_0.2.2.2.2.1 (kCSof m_X12_isFrom l_X12_393) (by decide) (by decide) rfl rfl (by show (0 : Nat) ≤ 8; decide) ?_
  refine Run.mono (P_X12_isFrom q4) (fun rr ss e => ?_)
  obtain ⟨e1, e2⟩ := e
  refine R_eqs (st2 := [vI (kb ((0 : Int) ≤ l1 ∧ (l1 : Int) ≤ 9999))]) (σ2 := σ) (by rw [e1]; rfl) e2 ?_
  refine R_if_ne 18 e_X12_live_0.2.2.2.2.2.1 (by decide) (kb_r _) (fun q => ?_) (fun q => ?_)
  · replace h := h.1 (kb_t q)
    refine R_aload_n e_X12_live_1.1 0 rfl ?_
    refine R_getA 12 0 1 e_X12_live_1.2.1 f_X12_7 km_0 (fun _ _ => rfl) rm_0_0 (by decide) ?_
    refine R_bipush e_X12_live_1.2.2.1 (by decide) ?_
    refine R_iald 3598 e_X12_live_1.2.2.2.1 kma_1 (by decide) ?_
    refine R_iconst e_X12_live_1.2.2.2.2.1 ?_
    obtain ⟨q5, h⟩ := h
    refine R_icmp_ne 36 e_X12_live_1.2.2.2.2.2.1 (by decide) q5 (by decide) (fun q => ?_) (fun q => ?_)
    · replace h := h.1 q
      refine R_aload_n e_X12_live_2.1 0 rfl ?_
      refine R_iload_n e_X12_live_2.2.1 1 rfl ?_
      obtain ⟨q8, h⟩ := h
      refine R_callV (mc := 0) (ms := 0) (mc' := 0) (ms' := 0) (M' := M_X12_lives) (d' := 11) (as := [vI l1]) (st := []) 12 1 e_X12_live_2.2.2.1 (kCVof m_X12_lives l_X12_526) rfl (by decide) km_0 (by decide) (by decide) rfl rfl (by show (0 : Nat) ≤ 8; decide) ?_
      refine Run.mono (P_X12_lives q8) (fun rr ss e => ?_)
      obtain ⟨e1, e2⟩ := e
      refine R_eqs (st2 := []) (σ2 := (sRun 300 0 (sBeg σ (l1)))) (by rfl) e2 ?_
      refine R_iconst e_X12_live_2.2.2.2.1 ?_
      refine R_istore_n (ls2 := [(2, vI 0), (0, vA G 0), (1, vI l1)]) e_X12_live_2.2.2.2.2.1 (by decide) rfl ?_
      refine R_ls (ls2 := [(0, vA G 0), (2, vI 0)]) [1, 0] rfl ?_
      exact h
    · replace h := h.2 q
      refine R_aload_n e_X12_live_1.2.2.2.2.2.2.1 0 rfl ?_
      refine R_bipush e_X12_live_1.2.2.2.2.2.2.2.1 (by decide) ?_
      refine R_callV (mc := 0) (ms := 0) (mc' := 0) (ms' := 0) (M' := M_X12_refuse) (d' := 0) (as := [vI 6]) (st := []) 12 1 e_X12_live_1.2.2.2.2.2.2.2.2.1 (kCVof m_X12_refuse l_X12_93) rfl (by decide) km_0 (by decide) (by decide) rfl rfl (by show (0 : Nat) ≤ 8; decide) ?_
      refine S_X12_refuse ?_
      refine R_eqs (st2 := [vI (-1)]) (σ2 := (kup σ 0 2 6)) rfl rfl ?_
      exact R_ireturn e_X12_live_1.2.2.2.2.2.2.2.2.2 rfl h
  · replace h := h.2 (kb_f q)
    refine R_aload_n e_X12_live_0.2.2.2.2.2.2.1 0 rfl ?_
    refine R_iconst e_X12_live_0.2.2.2.2.2.2.2.1 ?_
    refine R_callV (mc := 0) (ms := 0) (mc' := 0) (ms' := 0) (M' := M_X12_refuse) (d' := 0) (as := [vI 1]) (st := []) 12 1 e_X12_live_0.2.2.2.2.2.2.2.2.1 (kCVof m_X12_refuse l_X12_93) rfl (by decide) km_0 (by decide) (by decide) rfl rfl (by show (0 : Nat) ≤ 8; decide) ?_
    refine S_X12_refuse ?_
    refine R_eqs (st2 := [vI (-1)]) (σ2 := (kup σ 0 2 1)) rfl rfl ?_
    exact R_ireturn e_X12_live_0.2.2.2.2.2.2.2.2.2 rfl h
theorem S_X12_live_43 {G : Kg} {σ : Kmem} {Q : Int → Kmem → Prop} {l1 l2 : Int}  (h : (rI l2) ∧ ((5 ≤ l2 → Q ((kup σ 0 40 1) 0 36) (kup (kup σ 0 40 1) 0 2 0)) ∧ (l2 < 5 → (0 ≤ l2 ∧ l2 < 5) ∧ (0 ≤ l2 ∧ l2 < 5) ∧ E_X12_live_43 G (l2 + 1) (kup σ 20 l2 (σ 19 l2)) Q))) : E_X12_live_43 G l2 σ Q := by
  refine R_iload_n e_X12_live_2.2.2.2.2.2.1 1 rfl ?_
  refine R_iconst e_X12_live_2.2.2.2.2.2.2.1 ?_
  obtain ⟨q13, h⟩ := h
  refine R_icmp_ge 66 e_X12_live_2.2.2.2.2.2.2.2.1 (by decide) q13 (by decide) (fun q => ?_) (fun q => ?_)
  · replace h := h.1 q
    refine R_aload_n e_X12_live_3.2.2.2.2.2.2.2.2.1 0 rfl ?_
    refine R_iconst e_X12_live_3.2.2.2.2.2.2.2.2.2 ?_
    refine R_putZ 12 40 40 WM_ok e_X12_live_4.1 f_X12_529 km_0 rfl rfl rfl (Or.inr rfl) ?_
    refine R_aload_n e_X12_live_4.2.1 0 rfl ?_
    refine R_aload_n e_X12_live_4.2.2.1 0 rfl ?_
    refine R_getI 12 36 36 e_X12_live_4.2.2.2.1 f_X12_512 km_0 (fun _ _ => rfl) rfl ?_
    refine R_callV (mc := 0) (ms := 0) (mc' := 0) (ms' := 0) (M' := M_X12_gives) (d' := 0) (as := [vI ((kup σ 0 40 1) 0 36)]) (st := []) 12 1 e_X12_live_4.2.2.2.2.1 (kCVof m_X12_gives l_X12_97) rfl (by decide) km_0 (by decide) (by decide) rfl rfl (by show (0 : Nat) ≤ 8; decide) ?_
    refine S_X12_gives ?_
    refine R_eqs (st2 := [vI ((kup σ 0 40 1) 0 36)]) (σ2 := (kup (kup σ 0 40 1) 0 2 0)) rfl rfl ?_
    exact R_ireturn e_X12_live_4.2.2.2.2.2 rfl h
  · replace h := h.2 q
    refine R_aload_n e_X12_live_2.2.2.2.2.2.2.2.2.1 0 rfl ?_
    refine R_getA 12 39 20 e_X12_live_2.2.2.2.2.2.2.2.2.2 f_X12_80 km_0 (fun _ _ => rfl) rm_0_39 (by decide) ?_
    refine R_iload_n e_X12_live_3.1 1 rfl ?_
    refine R_aload_n e_X12_live_3.2.1 0 rfl ?_
    refine R_getA 12 38 19 e_X12_live_3.2.2.1 f_X12_77 km_0 (fun _ _ => rfl) rm_0_38 (by decide) ?_
    refine R_iload_n e_X12_live_3.2.2.2.1 1 rfl ?_
    obtain ⟨q16, h⟩ := h
    refine R_iald 5 e_X12_live_3.2.2.2.2.1 kma_19 q16 ?_
    obtain ⟨q17, h⟩ := h
    refine R_iast 5 WM_ok e_X12_live_3.2.2.2.2.2.1 kma_20 q17 ?_
    refine R_iinc (ls2 := [(2, vI (l2 + 1)), (0, vA G 0)]) e_X12_live_3.2.2.2.2.2.2.1 1 rfl (by decide) rfl ?_
    refine R_goto 43 e_X12_live_3.2.2.2.2.2.2.2.1 (by decide) ?_
    refine R_ls (ls2 := [(0, vA G 0), (2, vI (l2 + 1))]) [1, 0] rfl ?_
    exact h
/-! KiteLandModel.lived(I)I -/
theorem e_X12_lived_0 : decode cX12_lived 0 = .ok (.iload_n 1, 1) ∧ decode cX12_lived 1 = .ok (.ifCond .lt 8, 3) ∧ decode cX12_lived 4 = .ok (.iload_n 1, 1) ∧ decode cX12_lived 5 = .ok (.iconst 4, 1) ∧ decode cX12_lived 6 = .ok (.if_icmp .le 11, 3) ∧ decode cX12_lived 9 = .ok (.aload_n 0, 1) ∧ decode cX12_lived 10 = .ok (.iconst 1, 1) ∧ decode cX12_lived 11 = .ok (.invokevirtual 93, 3) ∧ decode cX12_lived 14 = .ok (.goto 29, 3) ∧ decode cX12_lived 17 = .ok (.aload_n 0, 1) := by decide +kernel
theorem e_X12_lived_1 : decode cX12_lived 18 = .ok (.getfield 529, 3) ∧ decode cX12_lived 21 = .ok (.ifCond .eq 16, 3) ∧ decode cX12_lived 24 = .ok (.aload_n 0, 1) ∧ decode cX12_lived 25 = .ok (.aload_n 0, 1) ∧ decode cX12_lived 26 = .ok (.getfield 80, 3) ∧ decode cX12_lived 29 = .ok (.iload_n 1, 1) ∧ decode cX12_lived 30 = .ok (.iaload, 1) ∧ decode cX12_lived 31 = .ok (.invokevirtual 97, 3) ∧ decode cX12_lived 34 = .ok (.goto 9, 3) ∧ decode cX12_lived 37 = .ok (.aload_n 0, 1) := by decide +kernel
theorem e_X12_lived_2 : decode cX12_lived 38 = .ok (.bipush 6, 2) ∧ decode cX12_lived 40 = .ok (.invokevirtual 93, 3) ∧ decode cX12_lived 43 = .ok (.ireturn, 1) := by decide +kernel
theorem S_X12_lived {G : Kg} {σ : Kmem} {Q : Int → Kmem → Prop} {l1 : Int}  (h : (rI l1) ∧ ((l1 < 0 → Q (-1) (kup σ 0 2 1)) ∧ (0 ≤ l1 → ((l1 ≤ 4 → (rI (σ 0 40)) ∧ ((σ 0 40 = 0 → Q (-1) (kup σ 0 2 6)) ∧ (σ 0 40 ≠ 0 → (0 ≤ l1 ∧ l1 < 5) ∧ Q (σ 20 l1) (kup σ 0 2 0)))) ∧ (4 < l1 → Q (-1) (kup σ 0 2 1)))))) : Run G WM M_X12_lived 1 0 0 [vA G 0, vI l1] σ Q := by
  refine Run.of (by decide +kernel) (by show (2 : Nat) ≤ 2; decide) ?_
  show Ex G WM M_X12_lived 1 0 0 0 [(0, vA G 0), (1, vI l1)] [] σ Q
  refine R_iload_n e_X12_lived_0.1 1 rfl ?_
  obtain ⟨q1, h⟩ := h
  refine R_if_lt 9 e_X12_lived_0.2.1 (by decide) q1  (fun q => ?_) (fun q => ?_)
  · replace h := h.1 q
    refine R_aload_n e_X12_lived_0.2.2.2.2.2.1 0 rfl ?_
    refine R_iconst e_X12_lived_0.2.2.2.2.2.2.1 ?_
    refine R_callV (mc := 0) (ms := 0) (mc' := 0) (ms' := 0) (M' := M_X12_refuse) (d' := 0) (as := [vI 1]) (st := []) 12 1 e_X12_lived_0.2.2.2.2.2.2.2.1 (kCVof m_X12_refuse l_X12_93) rfl (by decide) km_0 (by decide) (by decide) rfl rfl (by show (0 : Nat) ≤ 8; decide) ?_
    refine S_X12_refuse ?_
    refine R_eqs (st2 := [vI (-1)]) (σ2 := (kup σ 0 2 1)) rfl rfl ?_
    refine R_goto 43 e_X12_lived_0.2.2.2.2.2.2.2.2.1 (by decide) ?_
    exact R_ireturn e_X12_lived_2.2.2 rfl h
  · replace h := h.2 q
    refine R_iload_n e_X12_lived_0.2.2.1 1 rfl ?_
    refine R_iconst e_X12_lived_0.2.2.2.1 ?_
    refine R_icmp_le 17 e_X12_lived_0.2.2.2.2.1 (by decide) q1 (by decide) (fun q => ?_) (fun q => ?_)
    · replace h := h.1 q
      refine R_aload_n e_X12_lived_0.2.2.2.2.2.2.2.2.2 0 rfl ?_
      refine R_getI 12 40 40 e_X12_lived_1.1 f_X12_529 km_0 (fun _ _ => rfl) rfl ?_
      obtain ⟨q4, h⟩ := h
      refine R_if_eq 37 e_X12_lived_1.2.1 (by decide) q4  (fun q => ?_) (fun q => ?_)
      · replace h := h.1 q
        refine R_aload_n e_X12_lived_1.2.2.2.2.2.2.2.2.2 0 rfl ?_
        refine R_bipush e_X12_lived_2.1 (by decide) ?_
        refine R_callV (mc := 0) (ms := 0) (mc' := 0) (ms' := 0) (M' := M_X12_refuse) (d' := 0) (as := [vI 6]) (st := []) 12 1 e_X12_lived_2.2.1 (kCVof m_X12_refuse l_X12_93) rfl (by decide) km_0 (by decide) (by decide) rfl rfl (by show (0 : Nat) ≤ 8; decide) ?_
        refine S_X12_refuse ?_
        refine R_eqs (st2 := [vI (-1)]) (σ2 := (kup σ 0 2 6)) rfl rfl ?_
        exact R_ireturn e_X12_lived_2.2.2 rfl h
      · replace h := h.2 q
        refine R_aload_n e_X12_lived_1.2.2.1 0 rfl ?_
        refine R_aload_n e_X12_lived_1.2.2.2.1 0 rfl ?_
        refine R_getA 12 39 20 e_X12_lived_1.2.2.2.2.1 f_X12_80 km_0 (fun _ _ => rfl) rm_0_39 (by decide) ?_
        refine R_iload_n e_X12_lived_1.2.2.2.2.2.1 1 rfl ?_
        obtain ⟨q7, h⟩ := h
        refine R_iald 5 e_X12_lived_1.2.2.2.2.2.2.1 kma_20 q7 ?_
        refine R_callV (mc := 0) (ms := 0) (mc' := 0) (ms' := 0) (M' := M_X12_gives) (d' := 0) (as := [vI (σ 20 l1)]) (st := []) 12 1 e_X12_lived_1.2.2.2.2.2.2.2.1 (kCVof m_X12_gives l_X12_97) rfl (by decide) km_0 (by decide) (by decide) rfl rfl (by show (0 : Nat) ≤ 8; decide) ?_
        refine S_X12_gives ?_
        refine R_eqs (st2 := [vI (σ 20 l1)]) (σ2 := (kup σ 0 2 0)) rfl rfl ?_
        refine R_goto 43 e_X12_lived_1.2.2.2.2.2.2.2.2.1 (by decide) ?_
        exact R_ireturn e_X12_lived_2.2.2 rfl h
    · replace h := h.2 q
      refine R_aload_n e_X12_lived_0.2.2.2.2.2.1 0 rfl ?_
      refine R_iconst e_X12_lived_0.2.2.2.2.2.2.1 ?_
      refine R_callV (mc := 0) (ms := 0) (mc' := 0) (ms' := 0) (M' := M_X12_refuse) (d' := 0) (as := [vI 1]) (st := []) 12 1 e_X12_lived_0.2.2.2.2.2.2.2.1 (kCVof m_X12_refuse l_X12_93) rfl (by decide) km_0 (by decide) (by decide) rfl rfl (by show (0 : Nat) ≤ 8; decide) ?_
      refine S_X12_refuse ?_
      refine R_eqs (st2 := [vI (-1)]) (σ2 := (kup σ 0 2 1)) rfl rfl ?_
      refine R_goto 43 e_X12_lived_0.2.2.2.2.2.2.2.2.1 (by decide) ?_
      exact R_ireturn e_X12_lived_2.2.2 rfl h
/-! KiteLandModel.mean(III)Z -/
theorem e_X12_mean_0 : decode cX12_mean 0 = .ok (.aload_n 0, 1) ∧ decode cX12_mean 1 = .ok (.iload_n 1, 1) ∧ decode cX12_mean 2 = .ok (.invokevirtual 343, 3) ∧ decode cX12_mean 5 = .ok (.ifCond .eq 38, 3) ∧ decode cX12_mean 8 = .ok (.iload_n 2, 1) ∧ decode cX12_mean 9 = .ok (.i2l, 1) ∧ decode cX12_mean 10 = .ok (.lconst 0, 1) ∧ decode cX12_mean 11 = .ok (.ldc2_w 524, 3) ∧ decode cX12_mean 14 = .ok (.invokestatic 393, 3) ∧ decode cX12_mean 17 = .ok (.ifCond .eq 26, 3) := by decide +kernel
theorem e_X12_mean_1 : decode cX12_mean 20 = .ok (.iload_n 3, 1) ∧ decode cX12_mean 21 = .ok (.i2l, 1) ∧ decode cX12_mean 22 = .ok (.lconst 1, 1) ∧ decode cX12_mean 23 = .ok (.ldc2_w 449, 3) ∧ decode cX12_mean 26 = .ok (.invokestatic 393, 3) ∧ decode cX12_mean 29 = .ok (.ifCond .eq 14, 3) ∧ decode cX12_mean 32 = .ok (.iload_n 2, 1) ∧ decode cX12_mean 33 = .ok (.iload_n 3, 1) ∧ decode cX12_mean 34 = .ok (.iadd, 1) ∧ decode cX12_mean 35 = .ok (.iconst 1, 1) := by decide +kernel
theorem e_X12_mean_2 : decode cX12_mean 36 = .ok (.isub, 1) ∧ decode cX12_mean 37 = .ok (.sipush 9999, 3) ∧ decode cX12_mean 40 = .ok (.if_icmp .le 9, 3) ∧ decode cX12_mean 43 = .ok (.aload_n 0, 1) ∧ decode cX12_mean 44 = .ok (.iconst 1, 1) ∧ decode cX12_mean 45 = .ok (.invokevirtual 100, 3) ∧ decode cX12_mean 48 = .ok (.ireturn, 1) ∧ decode cX12_mean 49 = .ok (.aload_n 0, 1) ∧ decode cX12_mean 50 = .ok (.getfield 7, 3) ∧ decode cX12_mean 53 = .ok (.bipush 8, 2) := by decide +kernel
theorem e_X12_mean_3 : decode cX12_mean 55 = .ok (.iaload, 1) ∧ decode cX12_mean 56 = .ok (.iconst (-1), 1) ∧ decode cX12_mean 57 = .ok (.if_icmp .ne 10, 3) ∧ decode cX12_mean 60 = .ok (.aload_n 0, 1) ∧ decode cX12_mean 61 = .ok (.bipush 6, 2) ∧ decode cX12_mean 63 = .ok (.invokevirtual 100, 3) ∧ decode cX12_mean 66 = .ok (.ireturn, 1) ∧ decode cX12_mean 67 = .ok (.aload_n 0, 1) ∧ decode cX12_mean 68 = .ok (.sipush 2570, 3) ∧ decode cX12_mean 71 = .ok (.invokevirtual 419, 3) := by decide +kernel
theorem e_X12_mean_4 : decode cX12_mean 74 = .ok (.lconst 0, 1) ∧ decode cX12_mean 75 = .ok (.lstore 4, 2) ∧ decode cX12_mean 77 = .ok (.iconst 0, 1) ∧ decode cX12_mean 78 = .ok (.istore 6, 2) ∧ decode cX12_mean 80 = .ok (.iload 6, 2) ∧ decode cX12_mean 82 = .ok (.iload_n 3, 1) ∧ decode cX12_mean 83 = .ok (.if_icmp .ge 36, 3) ∧ decode cX12_mean 86 = .ok (.aload_n 0, 1) ∧ decode cX12_mean 87 = .ok (.iload_n 2, 1) ∧ decode cX12_mean 88 = .ok (.iload 6, 2) := by decide +kernel
theorem e_X12_mean_5 : decode cX12_mean 90 = .ok (.iadd, 1) ∧ decode cX12_mean 91 = .ok (.invokevirtual 526, 3) ∧ decode cX12_mean 94 = .ok (.lload 4, 2) ∧ decode cX12_mean 96 = .ok (.aload_n 0, 1) ∧ decode cX12_mean 97 = .ok (.iload_n 1, 1) ∧ decode cX12_mean 98 = .ok (.iconst 5, 1) ∧ decode cX12_mean 99 = .ok (.invokevirtual 268, 3) ∧ decode cX12_mean 102 = .ok (.i2l, 1) ∧ decode cX12_mean 103 = .ok (.ladd, 1) ∧ decode cX12_mean 104 = .ok (.lstore 4, 2) := by decide +kernel
theorem e_X12_mean_6 : decode cX12_mean 106 = .ok (.aload_n 0, 1) ∧ decode cX12_mean 107 = .ok (.sipush 2570, 3) ∧ decode cX12_mean 110 = .ok (.invokevirtual 422, 3) ∧ decode cX12_mean 113 = .ok (.iinc 6 1, 3) ∧ decode cX12_mean 116 = .ok (.goto (-36), 3) ∧ decode cX12_mean 119 = .ok (.aload_n 0, 1) ∧ decode cX12_mean 120 = .ok (.lload 4, 2) ∧ decode cX12_mean 122 = .ok (.iload_n 3, 1) ∧ decode cX12_mean 123 = .ok (.i2l, 1) ∧ decode cX12_mean 124 = .ok (.invokevirtual 493, 3) := by decide +kernel
theorem e_X12_mean_7 : decode cX12_mean 127 = .ok (.ireturn, 1) := by decide +kernel
abbrev E_X12_mean_80 (G : Kg) (l1 l2 l3 l4 l6 : Int) (σ : Kmem) (Q : Int → Kmem → Prop) : Prop := Ex G WM M_X12_mean 12 0 0 80 [(0, vA G 0), (1, vI l1), (2, vI l2), (3, vI l3), (4, vL l4), (6, vI l6)] [] σ Q
theorem S_X12_mean {G : Kg} {σ : Kmem} {Q : Int → Kmem → Prop} {l1 l2 l3 : Int}  (h : (rI l1 ∧ wf (σ 1)) ∧ ((¬ (sKt (σ 1) (l1)) → (rI (1)) ∧ Q (kb ((1 : Int) = 0)) (kup σ 0 2 (1))) ∧ ((sKt (σ 1) (l1)) → (rI l2) ∧ (rL l2 ∧ rL 0 ∧ rL 9999) ∧ ((¬ ((0 : Int) ≤ l2 ∧ (l2 : Int) ≤ 9999) → (rI (1)) ∧ Q (kb ((1 : Int) = 0)) (kup σ 0 2 (1))) ∧ (((0 : Int) ≤ l2 ∧ (l2 : Int) ≤ 9999) → (rI l3) ∧ (rL l3 ∧ rL 1 ∧ rL 20) ∧ ((¬ ((1 : Int) ≤ l3 ∧ (l3 : Int) ≤ 20) → (rI (1)) ∧ Q (kb ((1 : Int) = 0)) (kup σ 0 2 (1))) ∧ (((1 : Int) ≤ l3 ∧ (l3 : Int) ≤ 20) → (rI ((l2 + l3) - 1)) ∧ (((l2 + l3) - 1 ≤ 9999 → (rI (σ 1 8)) ∧ ((σ 1 8 ≠ -1 → ((150 : Int) ≤ 2570 ∧ (2570 : Int) ≤ 3448) ∧ E_X12_mean_80 G l1 l2 l3 0 0 (kst σ 1 (sKeep (σ 1) (2570))) Q) ∧ (σ 1 8 = -1 → (rI (6)) ∧ Q (kb ((6 : Int) = 0)) (kup σ 0 2 (6))))) ∧ (9999 < (l2 + l3) - 1 → (rI (1)) ∧ Q (kb ((1 : Int) = 0)) (kup σ 0 2 (1))))))))))) : Run G WM M_X12_mean 12 0 0 [vA G 0, vI l1, vI l2, vI l3] σ Q := by
  refine Run.of (by decide +kernel) (by show (4 : Nat) ≤ 7; decide) ?_
  show Ex G WM M_X12_mean 12 0 0 0 [(0, vA G 0), (1, vI l1), (2, vI l2), (3, vI l3)] [] σ Q
  refine R_aload_n e_X12_mean_0.1 0 rfl ?_
  refine R_iload_n e_X12_mean_0.2.1 1 rfl ?_
  obtain ⟨q3, h⟩ := h
  refine R_callV (mc := 0) (ms := 0) (mc' := 0) (ms' := 0) (M' := M_X12_isKite) (d' := 0) (as := [vI l1]) (st := []) 12 1 e_X12_mean_0.2.2.1 (kCVof m_X12_isKite l_X12_343) rfl (by decide) km_0 (by decide) (by decide) rfl rfl (by show (0 : Nat) ≤ 8; decide) ?_
  refine Run.mono (P_X12_isKite q3) (fun rr ss e => ?_)
  obtain ⟨e1, e2⟩ := e
  refine R_eqs (st2 := [vI (kb (sKt (σ 1) (l1)))]) (σ2 := σ) (by rw [e1]; rfl) e2 ?_
  refine R_if_eq 43 e_X12_mean_0.2.2.2.1 (by decide) (kb_r _) (fun q => ?_) (fun q => ?_)
  · replace h := h.1 (kb_f q)
    refine R_aload_n e_X12_mean_2.2.2.2.1 0 rfl ?_
    refine R_iconst e_X12_mean_2.2.2.2.2.1 ?_
    obtain ⟨q6, h⟩ := h
    refine R_callV (mc := 0) (ms := 0) (mc' := 0) (ms' := 0) (M' := M_X12_is) (d' := 0) (as := [vI 1]) (st := []) 12 1 e_X12_mean_2.2.2.2.2.2.1 (kCVof m_X12_is l_X12_100) rfl (by decide) km_0 (by decide) (by decide) rfl rfl (by show (0 : Nat) ≤ 8; decide) ?_
    refine Run.mono (P_X12_is q6) (fun rr ss e => ?_)
    obtain ⟨e1, e2⟩ := e
    refine R_eqs (st2 := [vI (kb ((1 : Int) = 0))]) (σ2 := (kup σ 0 2 (1))) (by rw [e1]; rfl) e2 ?_
    exact R_zreturn e_X12_mean_2.2.2.2.2.2.2.1 rfl (kb_01 _) h
  · replace h := h.2 (kb_t q)
    refine R_iload_n e_X12_mean_0.2.2.2.2.1 2 rfl ?_
    obtain ⟨q7, h⟩ := h
    refine R_i2l e_X12_mean_0.2.2.2.2.2.1 q7 ?_
    refine R_lconst 0 e_X12_mean_0.2.2.2.2.2.2.1 (by decide) ?_
    refine R_ldc2 (9999) k_X12_524 e_X12_mean_0.2.2.2.2.2.2.2.1 ?_
    obtain ⟨q10, h⟩ := h
    refine R_callS (mc := 0) (ms := 0) (mc' := 0) (ms' := 0) (M' := M_X12_isFrom) (d' := 0) (as := [vL l2, vL 0, vL 9999]) (st := []) 3 e_X12_mean_0.2.2.2.2.2.2.2.2.1 (kCSof m_X12_isFrom l_X12_393) (by decide) (by decide) rfl rfl (by show (0 : Nat) ≤ 8; decide) ?_
    refine Run.mono (P_X12_isFrom q10) (fun rr ss e => ?_)
    obtain ⟨e1, e2⟩ := e
    refine R_eqs (st2 := [vI (kb ((0 : Int) ≤ l2 ∧ (l2 : Int) ≤ 9999))]) (σ2 := σ) (by rw [e1]; rfl) e2 ?_
    refine R_if_eq 43 e_X12_mean_0.2.2.2.2.2.2.2.2.2 (by decide) (kb_r _) (fun q => ?_) (fun q => ?_)
    · replace h := h.1 (kb_f q)
      refine R_aload_n e_X12_mean_2.2.2.2.1 0 rfl ?_
      refine R_iconst e_X12_mean_2.2.2.2.2.1 ?_
      obtain ⟨q13, h⟩ := h
      refine R_callV (mc := 0) (ms := 0) (mc' := 0) (ms' := 0) (M' := M_X12_is) (d' := 0) (as := [vI 1]) (st := []) 12 1 e_X12_mean_2.2.2.2.2.2.1 (kCVof m_X12_is l_X12_100) rfl (by decide) km_0 (by decide) (by decide) rfl rfl (by show (0 : Nat) ≤ 8; decide) ?_
      refine Run.mono (P_X12_is q13) (fun rr ss e => ?_)
      obtain ⟨e1, e2⟩ := e
      refine R_eqs (st2 := [vI (kb ((1 : Int) = 0))]) (σ2 := (kup σ 0 2 (1))) (by rw [e1]; rfl) e2 ?_
      exact R_zreturn e_X12_mean_2.2.2.2.2.2.2.1 rfl (kb_01 _) h
    · replace h := h.2 (kb_t q)
      refine R_iload_n e_X12_mean_1.1 3 rfl ?_
      obtain ⟨q14, h⟩ := h
      refine R_i2l e_X12_mean_1.2.1 q14 ?_
      refine R_lconst 1 e_X12_mean_1.2.2.1 (by decide) ?_
      refine R_ldc2 (20) k_X12_449 e_X12_mean_1.2.2.2.1 ?_
      obtain ⟨q17, h⟩ := h
      refine R_callS (mc := 0) (ms := 0) (mc' := 0) (ms' := 0) (M' := M_X12_isFrom) (d' := 0) (as := [vL l3, vL 1, vL 20]) (st := []) 3 e_X12_mean_1.2.2.2.2.1 (kCSof m_X12_isFrom l_X12_393) (by decide) (by decide) rfl rfl (by show (0 : Nat) ≤ 8; decide) ?_
      refine Run.mono (P_X12_isFrom q17) (fun rr ss e => ?_)
      obtain ⟨e1, e2⟩ := e
      refine R_eqs (st2 := [vI (kb ((1 : Int) ≤ l3 ∧ (l3 : Int) ≤ 20))]) (σ2 := σ) (by rw [e1]; rfl) e2 ?_
      refine R_if_eq 43 e_X12_mean_1.2.2.2.2.2.1 (by decide) (kb_r _) (fun q => ?_) (fun q => ?_)
      · replace h := h.1 (kb_f q)
        refine R_aload_n e_X12_mean_2.2.2.2.1 0 rfl ?_
        refine R_iconst e_X12_mean_2.2.2.2.2.1 ?_
        obtain ⟨q20, h⟩ := h
        refine R_callV (mc := 0) (ms := 0) (mc' := 0) (ms' := 0) (M' := M_X12_is) (d' := 0) (as := [vI 1]) (st := []) 12 1 e_X12_mean_2.2.2.2.2.2.1 (kCVof m_X12_is l_X12_100) rfl (by decide) km_0 (by decide) (by decide) rfl rfl (by show (0 : Nat) ≤ 8; decide) ?_
        refine Run.mono (P_X12_is q20) (fun rr ss e => ?_)
        obtain ⟨e1, e2⟩ := e
        refine R_eqs (st2 := [vI (kb ((1 : Int) = 0))]) (σ2 := (kup σ 0 2 (1))) (by rw [e1]; rfl) e2 ?_
        exact R_zreturn e_X12_mean_2.2.2.2.2.2.2.1 rfl (kb_01 _) h
      · replace h := h.2 (kb_t q)
        refine R_iload_n e_X12_mean_1.2.2.2.2.2.2.1 2 rfl ?_
        refine R_iload_n e_X12_mean_1.2.2.2.2.2.2.2.1 3 rfl ?_
        refine R_iadd e_X12_mean_1.2.2.2.2.2.2.2.2.1 ?_
        refine R_iconst e_X12_mean_1.2.2.2.2.2.2.2.2.2 ?_
        refine R_isub e_X12_mean_2.1 ?_
        refine R_sipush e_X12_mean_2.2.1 (by decide) ?_
        obtain ⟨q21, h⟩ := h
        refine R_icmp_le 49 e_X12_mean_2.2.2.1 (by decide) q21 (by decide) (fun q => ?_) (fun q => ?_)
        · replace h := h.1 q
          refine R_aload_n e_X12_mean_2.2.2.2.2.2.2.2.1 0 rfl ?_
          refine R_getA 12 0 1 e_X12_mean_2.2.2.2.2.2.2.2.2.1 f_X12_7 km_0 (fun _ _ => rfl) rm_0_0 (by decide) ?_
          refine R_bipush e_X12_mean_2.2.2.2.2.2.2.2.2.2 (by decide) ?_
          refine R_iald 3598 e_X12_mean_3.1 kma_1 (by decide) ?_
          refine R_iconst e_X12_mean_3.2.1 ?_
          obtain ⟨q22, h⟩ := h
          refine R_icmp_ne 67 e_X12_mean_3.2.2.1 (by decide) q22 (by decide) (fun q => ?_) (fun q => ?_)
          · replace h := h.1 q
            refine R_aload_n e_X12_mean_3.2.2.2.2.2.2.2.1 0 rfl ?_
            refine R_sipush e_X12_mean_3.2.2.2.2.2.2.2.2.1 (by decide) ?_
            obtain ⟨q25, h⟩ := h
            refine R_callV (mc := 0) (ms := 0) (mc' := 0) (ms' := 0) (M' := M_X12_keeps) (d' := 0) (as := [vI 2570]) (st := []) 12 1 e_X12_mean_3.2.2.2.2.2.2.2.2.2 (kCVof m_X12_keeps l_X12_419) rfl (by decide) km_0 (by decide) (by decide) rfl rfl (by show (0 : Nat) ≤ 8; decide) ?_
            refine Run.mono (P_X12_keeps q25) (fun rr ss e => ?_)
            obtain ⟨e1, e2⟩ := e
            refine R_eqs (st2 := []) (σ2 := (kst σ 1 (sKeep (σ 1) (2570)))) (by rfl) e2 ?_
            refine R_lconst 0 e_X12_mean_4.1 (by decide) ?_
            refine R_lstore (ls2 := [(4, vL 0), (0, vA G 0), (1, vI l1), (2, vI l2), (3, vI l3)]) e_X12_mean_4.2.1 (by decide) rfl ?_
            refine R_iconst e_X12_mean_4.2.2.1 ?_
            refine R_istore (ls2 := [(6, vI 0), (4, vL 0), (0, vA G 0), (1, vI l1), (2, vI l2), (3, vI l3)]) e_X12_mean_4.2.2.2.1 (by decide) rfl ?_
            refine R_ls (ls2 := [(0, vA G 0), (1, vI l1), (2, vI l2), (3, vI l3), (4, vL 0), (6, vI 0)]) [2, 3, 4, 5, 1, 0] rfl ?_
            exact h
          · replace h := h.2 q
            refine R_aload_n e_X12_mean_3.2.2.2.1 0 rfl ?_
            refine R_bipush e_X12_mean_3.2.2.2.2.1 (by decide) ?_
            obtain ⟨q28, h⟩ := h
            refine R_callV (mc := 0) (ms := 0) (mc' := 0) (ms' := 0) (M' := M_X12_is) (d' := 0) (as := [vI 6]) (st := []) 12 1 e_X12_mean_3.2.2.2.2.2.1 (kCVof m_X12_is l_X12_100) rfl (by decide) km_0 (by decide) (by decide) rfl rfl (by show (0 : Nat) ≤ 8; decide) ?_
            refine Run.mono (P_X12_is q28) (fun rr ss e => ?_)
            obtain ⟨e1, e2⟩ := e
            refine R_eqs (st2 := [vI (kb ((6 : Int) = 0))]) (σ2 := (kup σ 0 2 (6))) (by rw [e1]; rfl) e2 ?_
            exact R_zreturn e_X12_mean_3.2.2.2.2.2.2.1 rfl (kb_01 _) h
        · replace h := h.2 q
          refine R_aload_n e_X12_mean_2.2.2.2.1 0 rfl ?_
          refine R_iconst e_X12_mean_2.2.2.2.2.1 ?_
          obtain ⟨q31, h⟩ := h
          refine R_callV (mc := 0) (ms := 0) (mc' := 0) (ms' := 0) (M' := M_X12_is) (d' := 0) (as := [vI 1]) (st := []) 12 1 e_X12_mean_2.2.2.2.2.2.1 (kCVof m_X12_is l_X12_100) rfl (by decide) km_0 (by decide) (by decide) rfl rfl (by show (0 : Nat) ≤ 8; decide) ?_
          refine Run.mono (P_X12_is q31) (fun rr ss e => ?_)
          obtain ⟨e1, e2⟩ := e
          refine R_eqs (st2 := [vI (kb ((1 : Int) = 0))]) (σ2 := (kup σ 0 2 (1))) (by rw [e1]; rfl) e2 ?_
          exact R_zreturn e_X12_mean_2.2.2.2.2.2.2.1 rfl (kb_01 _) h
theorem S_X12_mean_80 {G : Kg} {σ : Kmem} {Q : Int → Kmem → Prop} {l1 l2 l3 l4 l6 : Int}  (h : (rI l6) ∧ (rI l3) ∧ ((l3 ≤ l6 → Run G WM M_X12_tellsBy 1 0 0 [vA G 0, vL l4, vL l3] σ (fun r34 s35 => (r34 = 0 ∨ r34 = 1) ∧ Q r34 s35)) ∧ (l6 < l3 → ((wf (σ 1) ∧ pwf (σ 1) ∧ (σ 1) 7 ≤ 9999) ∧ (0 : Int) ≤ (σ 1) 8 ∧ ((0 : Int) ≤ (l2 + l6) ∧ ((l2 + l6) : Int) ≤ 65535) ∧ lpR (σ 18)) ∧ (0 ≤ (34 + (9 * l1)) + 5 ∧ (34 + (9 * l1)) + 5 < 3598) ∧ (rI ((sRun 300 0 (sBeg σ ((l2 + l6)))) 1 ((34 + (9 * l1)) + 5))) ∧ ((150 : Int) ≤ 2570 ∧ (2570 : Int) ≤ 3448) ∧ E_X12_mean_80 G l1 l2 l3 (l4 + ((sRun 300 0 (sBeg σ ((l2 + l6)))) 1 ((34 + (9 * l1)) + 5))) (l6 + 1) (kst (sRun 300 0 (sBeg σ ((l2 + l6)))) 1 (sRest ((sRun 300 0 (sBeg σ ((l2 + l6)))) 1) (2570))) Q))) : E_X12_mean_80 G l1 l2 l3 l4 l6 σ Q := by
  refine R_iload e_X12_mean_4.2.2.2.2.1 5 rfl ?_
  refine R_iload_n e_X12_mean_4.2.2.2.2.2.1 3 rfl ?_
  obtain ⟨q32, h⟩ := h
  obtain ⟨q33, h⟩ := h
  refine R_icmp_ge 119 e_X12_mean_4.2.2.2.2.2.2.1 (by decide) q32 q33 (fun q => ?_) (fun q => ?_)
  · replace h := h.1 q
    refine R_aload_n e_X12_mean_6.2.2.2.2.2.1 0 rfl ?_
    refine R_lload e_X12_mean_6.2.2.2.2.2.2.1 4 rfl ?_
    refine R_iload_n e_X12_mean_6.2.2.2.2.2.2.2.1 3 rfl ?_
    refine R_i2l e_X12_mean_6.2.2.2.2.2.2.2.2.1 q33 ?_
    refine R_callV (mc := 0) (ms := 0) (mc' := 0) (ms' := 0) (M' := M_X12_tellsBy) (d' := 1) (as := [vL l4, vL l3]) (st := []) 12 2 e_X12_mean_6.2.2.2.2.2.2.2.2.2 (kCVof m_X12_tellsBy l_X12_493) rfl (by decide) km_0 (by decide) (by decide) rfl rfl (by show (0 : Nat) ≤ 8; decide) ?_
    refine Run.mono h (fun r34 s35 h => ?_)
    refine R_eqs (st2 := [vI r34]) rfl rfl ?_
    obtain ⟨q36, h⟩ := h
    exact R_zreturn e_X12_mean_7 rfl q36 h
  · replace h := h.2 q
    refine R_aload_n e_X12_mean_4.2.2.2.2.2.2.2.1 0 rfl ?_
    refine R_iload_n e_X12_mean_4.2.2.2.2.2.2.2.2.1 2 rfl ?_
    refine R_iload e_X12_mean_4.2.2.2.2.2.2.2.2.2 5 rfl ?_
    refine R_iadd e_X12_mean_5.1 ?_
    obtain ⟨q39, h⟩ := h
    refine R_callV (mc := 0) (ms := 0) (mc' := 0) (ms' := 0) (M' := M_X12_lives) (d' := 11) (as := [vI (l2 + l6)]) (st := []) 12 1 e_X12_mean_5.2.1 (kCVof m_X12_lives l_X12_526) rfl (by decide) km_0 (by decide) (by decide) rfl rfl (by show (0 : Nat) ≤ 8; decide) ?_
    refine Run.mono (P_X12_lives q39) (fun rr ss e => ?_)
    obtain ⟨e1, e2⟩ := e
    refine R_eqs (st2 := []) (σ2 := (sRun 300 0 (sBeg σ ((l2 + l6))))) (by rfl) e2 ?_
    refine R_lload e_X12_mean_5.2.2.1 4 rfl ?_
    refine R_aload_n e_X12_mean_5.2.2.2.1 0 rfl ?_
    refine R_iload_n e_X12_mean_5.2.2.2.2.1 1 rfl ?_
    refine R_iconst e_X12_mean_5.2.2.2.2.2.1 ?_
    refine R_callV (mc := 0) (ms := 0) (mc' := 0) (ms' := 0) (M' := M_X12_of) (d' := 1) (as := [vI l1, vI 5]) (st := [vL l4]) 12 2 e_X12_mean_5.2.2.2.2.2.2.1 (kCVof m_X12_of l_X12_268) rfl (by decide) km_0 (by decide) (by decide) rfl rfl (by show (2 : Nat) ≤ 8; decide) ?_
    obtain ⟨q44, h⟩ := h
    refine S_X12_of ⟨q44, ?_⟩
    refine R_eqs (st2 := [vI ((sRun 300 0 (sBeg σ ((l2 + l6)))) 1 ((34 + (9 * l1)) + 5)), vL l4]) (σ2 := (sRun 300 0 (sBeg σ ((l2 + l6))))) rfl rfl ?_
    obtain ⟨q45, h⟩ := h
    refine R_i2l e_X12_mean_5.2.2.2.2.2.2.2.1 q45 ?_
    refine R_ladd e_X12_mean_5.2.2.2.2.2.2.2.2.1 ?_
    refine R_lstore (ls2 := [(4, vL (l4 + ((sRun 300 0 (sBeg σ ((l2 + l6)))) 1 ((34 + (9 * l1)) + 5)))), (0, vA G 0), (1, vI l1), (2, vI l2), (3, vI l3), (6, vI l6)]) e_X12_mean_5.2.2.2.2.2.2.2.2.2 (by decide) rfl ?_
    refine R_aload_n e_X12_mean_6.1 1 rfl ?_
    refine R_sipush e_X12_mean_6.2.1 (by decide) ?_
    obtain ⟨q48, h⟩ := h
    refine R_callV (mc := 0) (ms := 0) (mc' := 0) (ms' := 0) (M' := M_X12_restores) (d' := 0) (as := [vI 2570]) (st := []) 12 1 e_X12_mean_6.2.2.1 (kCVof m_X12_restores l_X12_422) rfl (by decide) km_0 (by decide) (by decide) rfl rfl (by show (0 : Nat) ≤ 8; decide) ?_
    refine Run.mono (P_X12_restores q48) (fun rr ss e => ?_)
    obtain ⟨e1, e2⟩ := e
    refine R_eqs (st2 := []) (σ2 := (kst (sRun 300 0 (sBeg σ ((l2 + l6)))) 1 (sRest ((sRun 300 0 (sBeg σ ((l2 + l6)))) 1) (2570)))) (by rfl) e2 ?_
    refine R_iinc (ls2 := [(6, vI (l6 + 1)), (4, vL (l4 + ((sRun 300 0 (sBeg σ ((l2 + l6)))) 1 ((34 + (9 * l1)) + 5)))), (0, vA G 0), (1, vI l1), (2, vI l2), (3, vI l3)]) e_X12_mean_6.2.2.2.1 5 rfl (by decide) rfl ?_
    refine R_goto 80 e_X12_mean_6.2.2.2.2.1 (by decide) ?_
    refine R_ls (ls2 := [(0, vA G 0), (1, vI l1), (2, vI l2), (3, vI l3), (4, vL (l4 + ((sRun 300 0 (sBeg σ ((l2 + l6)))) 1 ((34 + (9 * l1)) + 5)))), (6, vI (l6 + 1))]) [2, 3, 4, 5, 1, 0] rfl ?_
    exact h
/-! KiteLandModel.mark()I -/
theorem e_X12_mark_0 : decode cX12_mark 0 = .ok (.aload_n 0, 1) ∧ decode cX12_mark 1 = .ok (.getfield 533, 3) ∧ decode cX12_mark 4 = .ok (.iconst 3, 1) ∧ decode cX12_mark 5 = .ok (.if_icmp .ne 9, 3) ∧ decode cX12_mark 8 = .ok (.aload_n 0, 1) ∧ decode cX12_mark 9 = .ok (.iconst 4, 1) ∧ decode cX12_mark 10 = .ok (.invokevirtual 93, 3) ∧ decode cX12_mark 13 = .ok (.ireturn, 1) ∧ decode cX12_mark 14 = .ok (.aload_n 0, 1) ∧ decode cX12_mark 15 = .ok (.dup, 1) := by decide +kernel
theorem e_X12_mark_1 : decode cX12_mark 16 = .ok (.getfield 533, 3) ∧ decode cX12_mark 19 = .ok (.iconst 1, 1) ∧ decode cX12_mark 20 = .ok (.iadd, 1) ∧ decode cX12_mark 21 = .ok (.putfield 533, 3) ∧ decode cX12_mark 24 = .ok (.aload_n 0, 1) ∧ decode cX12_mark 25 = .ok (.iconst 0, 1) ∧ decode cX12_mark 26 = .ok (.aload_n 0, 1) ∧ decode cX12_mark 27 = .ok (.getfield 533, 3) ∧ decode cX12_mark 30 = .ok (.invokevirtual 536, 3) ∧ decode cX12_mark 33 = .ok (.aload_n 0, 1) := by decide +kernel
theorem e_X12_mark_2 : decode cX12_mark 34 = .ok (.aload_n 0, 1) ∧ decode cX12_mark 35 = .ok (.getfield 533, 3) ∧ decode cX12_mark 38 = .ok (.invokevirtual 97, 3) ∧ decode cX12_mark 41 = .ok (.ireturn, 1) := by decide +kernel
theorem S_X12_mark {G : Kg} {σ : Kmem} {Q : Int → Kmem → Prop}  (h : (rI (σ 0 41)) ∧ ((σ 0 41 ≠ 3 → (((0 : Int) ≤ 0 ∧ (0 : Int) ≤ 5) ∧ ((0 : Int) ≤ ((kup σ 0 41 ((σ 0 41) + 1)) 0 41) ∧ (((kup σ 0 41 ((σ 0 41) + 1)) 0 41) : Int) ≤ 5)) ∧ Q ((tCp (kup σ 0 41 ((σ 0 41) + 1)) (((kup σ 0 41 ((σ 0 41) + 1)) 0 41)) (0)) 0 41) (kup (tCp (kup σ 0 41 ((σ 0 41) + 1)) (((kup σ 0 41 ((σ 0 41) + 1)) 0 41)) (0)) 0 2 0)) ∧ (σ 0 41 = 3 → Q (-1) (kup σ 0 2 4)))) : Run G WM M_X12_mark 1 0 0 [vA G 0] σ Q := by
  refine Run.of (by decide +kernel) (by show (1 : Nat) ≤ 1; decide) ?_
  show Ex G WM M_X12_mark 1 0 0 0 [(0, vA G 0)] [] σ Q
  refine R_aload_n e_X12_mark_0.1 0 rfl ?_
  refine R_getI 12 41 41 e_X12_mark_0.2.1 f_X12_533 km_0 (fun _ _ => rfl) rfl ?_
  refine R_iconst e_X12_mark_0.2.2.1 ?_
  obtain ⟨q1, h⟩ := h
  refine R_icmp_ne 14 e_X12_mark_0.2.2.2.1 (by decide) q1 (by decide) (fun q => ?_) (fun q => ?_)
  · replace h := h.1 q
    refine R_aload_n e_X12_mark_0.2.2.2.2.2.2.2.2.1 0 rfl ?_
    refine R_dup e_X12_mark_0.2.2.2.2.2.2.2.2.2 rfl ?_
    refine R_getI 12 41 41 e_X12_mark_1.1 f_X12_533 km_0 (fun _ _ => rfl) rfl ?_
    refine R_iconst e_X12_mark_1.2.1 ?_
    refine R_iadd e_X12_mark_1.2.2.1 ?_
    refine R_putI 12 41 41 WM_ok e_X12_mark_1.2.2.2.1 f_X12_533 km_0 rfl rfl rfl ?_
    refine R_aload_n e_X12_mark_1.2.2.2.2.1 0 rfl ?_
    refine R_iconst e_X12_mark_1.2.2.2.2.2.1 ?_
    refine R_aload_n e_X12_mark_1.2.2.2.2.2.2.1 0 rfl ?_
    refine R_getI 12 41 41 e_X12_mark_1.2.2.2.2.2.2.2.1 f_X12_533 km_0 (fun _ _ => rfl) rfl ?_
    obtain ⟨q4, h⟩ := h
    refine R_callV (mc := 0) (ms := 0) (mc' := 0) (ms' := 0) (M' := M_X12_copies) (d' := 0) (as := [vI 0, vI ((kup σ 0 41 ((σ 0 41) + 1)) 0 41)]) (st := []) 12 2 e_X12_mark_1.2.2.2.2.2.2.2.2.1 (kCVof m_X12_copies l_X12_536) rfl (by decide) km_0 (by decide) (by decide) rfl rfl (by show (0 : Nat) ≤ 8; decide) ?_
    refine Run.mono (P_X12_copies q4) (fun rr ss e => ?_)
    obtain ⟨e1, e2⟩ := e
    refine R_eqs (st2 := []) (σ2 := (tCp (kup σ 0 41 ((σ 0 41) + 1)) (((kup σ 0 41 ((σ 0 41) + 1)) 0 41)) (0))) (by rfl) e2 ?_
    refine R_aload_n e_X12_mark_1.2.2.2.2.2.2.2.2.2 0 rfl ?_
    refine R_aload_n e_X12_mark_2.1 0 rfl ?_
    refine R_getI 12 41 41 e_X12_mark_2.2.1 f_X12_533 km_0 (fun _ _ => rfl) rfl ?_
    refine R_callV (mc := 0) (ms := 0) (mc' := 0) (ms' := 0) (M' := M_X12_gives) (d' := 0) (as := [vI ((tCp (kup σ 0 41 ((σ 0 41) + 1)) (((kup σ 0 41 ((σ 0 41) + 1)) 0 41)) (0)) 0 41)]) (st := []) 12 1 e_X12_mark_2.2.2.1 (kCVof m_X12_gives l_X12_97) rfl (by decide) km_0 (by decide) (by decide) rfl rfl (by show (0 : Nat) ≤ 8; decide) ?_
    refine S_X12_gives ?_
    refine R_eqs (st2 := [vI ((tCp (kup σ 0 41 ((σ 0 41) + 1)) (((kup σ 0 41 ((σ 0 41) + 1)) 0 41)) (0)) 0 41)]) (σ2 := (kup (tCp (kup σ 0 41 ((σ 0 41) + 1)) (((kup σ 0 41 ((σ 0 41) + 1)) 0 41)) (0)) 0 2 0)) rfl rfl ?_
    exact R_ireturn e_X12_mark_2.2.2.2 rfl h
  · replace h := h.2 q
    refine R_aload_n e_X12_mark_0.2.2.2.2.1 0 rfl ?_
    refine R_iconst e_X12_mark_0.2.2.2.2.2.1 ?_
    refine R_callV (mc := 0) (ms := 0) (mc' := 0) (ms' := 0) (M' := M_X12_refuse) (d' := 0) (as := [vI 4]) (st := []) 12 1 e_X12_mark_0.2.2.2.2.2.2.1 (kCVof m_X12_refuse l_X12_93) rfl (by decide) km_0 (by decide) (by decide) rfl rfl (by show (0 : Nat) ≤ 8; decide) ?_
    refine S_X12_refuse ?_
    refine R_eqs (st2 := [vI (-1)]) (σ2 := (kup σ 0 2 4)) rfl rfl ?_
    exact R_ireturn e_X12_mark_0.2.2.2.2.2.2.2.1 rfl h
/-! KiteLandModel.undo()I -/
theorem e_X12_undo_0 : decode cX12_undo 0 = .ok (.aload_n 0, 1) ∧ decode cX12_undo 1 = .ok (.getfield 533, 3) ∧ decode cX12_undo 4 = .ok (.ifCond .ne 10, 3) ∧ decode cX12_undo 7 = .ok (.aload_n 0, 1) ∧ decode cX12_undo 8 = .ok (.bipush 6, 2) ∧ decode cX12_undo 10 = .ok (.invokevirtual 93, 3) ∧ decode cX12_undo 13 = .ok (.ireturn, 1) ∧ decode cX12_undo 14 = .ok (.aload_n 0, 1) ∧ decode cX12_undo 15 = .ok (.aload_n 0, 1) ∧ decode cX12_undo 16 = .ok (.getfield 533, 3) := by decide +kernel
theorem e_X12_undo_1 : decode cX12_undo 19 = .ok (.iconst 0, 1) ∧ decode cX12_undo 20 = .ok (.invokevirtual 536, 3) ∧ decode cX12_undo 23 = .ok (.aload_n 0, 1) ∧ decode cX12_undo 24 = .ok (.dup, 1) ∧ decode cX12_undo 25 = .ok (.getfield 533, 3) ∧ decode cX12_undo 28 = .ok (.iconst 1, 1) ∧ decode cX12_undo 29 = .ok (.isub, 1) ∧ decode cX12_undo 30 = .ok (.putfield 533, 3) ∧ decode cX12_undo 33 = .ok (.aload_n 0, 1) ∧ decode cX12_undo 34 = .ok (.aload_n 0, 1) := by decide +kernel
theorem e_X12_undo_2 : decode cX12_undo 35 = .ok (.getfield 533, 3) ∧ decode cX12_undo 38 = .ok (.invokevirtual 97, 3) ∧ decode cX12_undo 41 = .ok (.ireturn, 1) := by decide +kernel
theorem S_X12_undo {G : Kg} {σ : Kmem} {Q : Int → Kmem → Prop}  (h : (rI (σ 0 41)) ∧ ((σ 0 41 ≠ 0 → (((0 : Int) ≤ (σ 0 41) ∧ ((σ 0 41) : Int) ≤ 5) ∧ ((0 : Int) ≤ 0 ∧ (0 : Int) ≤ 5)) ∧ Q ((kup (tCp σ (0) ((σ 0 41))) 0 41 (((tCp σ (0) ((σ 0 41))) 0 41) - 1)) 0 41) (kup (kup (tCp σ (0) ((σ 0 41))) 0 41 (((tCp σ (0) ((σ 0 41))) 0 41) - 1)) 0 2 0)) ∧ (σ 0 41 = 0 → Q (-1) (kup σ 0 2 6)))) : Run G WM M_X12_undo 1 0 0 [vA G 0] σ Q := by
  refine Run.of (by decide +kernel) (by show (1 : Nat) ≤ 1; decide) ?_
  show Ex G WM M_X12_undo 1 0 0 0 [(0, vA G 0)] [] σ Q
  refine R_aload_n e_X12_undo_0.1 0 rfl ?_
  refine R_getI 12 41 41 e_X12_undo_0.2.1 f_X12_533 km_0 (fun _ _ => rfl) rfl ?_
  obtain ⟨q1, h⟩ := h
  refine R_if_ne 14 e_X12_undo_0.2.2.1 (by decide) q1  (fun q => ?_) (fun q => ?_)
  · replace h := h.1 q
    refine R_aload_n e_X12_undo_0.2.2.2.2.2.2.2.1 0 rfl ?_
    refine R_aload_n e_X12_undo_0.2.2.2.2.2.2.2.2.1 0 rfl ?_
    refine R_getI 12 41 41 e_X12_undo_0.2.2.2.2.2.2.2.2.2 f_X12_533 km_0 (fun _ _ => rfl) rfl ?_
    refine R_iconst e_X12_undo_1.1 ?_
    obtain ⟨q4, h⟩ := h
    refine R_callV (mc := 0) (ms := 0) (mc' := 0) (ms' := 0) (M' := M_X12_copies) (d' := 0) (as := [vI (σ 0 41), vI 0]) (st := []) 12 2 e_X12_undo_1.2.1 (kCVof m_X12_copies l_X12_536) rfl (by decide) km_0 (by decide) (by decide) rfl rfl (by show (0 : Nat) ≤ 8; decide) ?_
    refine Run.mono (P_X12_copies q4) (fun rr ss e => ?_)
    obtain ⟨e1, e2⟩ := e
    refine R_eqs (st2 := []) (σ2 := (tCp σ (0) ((σ 0 41)))) (by rfl) e2 ?_
    refine R_aload_n e_X12_undo_1.2.2.1 0 rfl ?_
    refine R_dup e_X12_undo_1.2.2.2.1 rfl ?_
    refine R_getI 12 41 41 e_X12_undo_1.2.2.2.2.1 f_X12_533 km_0 (fun _ _ => rfl) rfl ?_
    refine R_iconst e_X12_undo_1.2.2.2.2.2.1 ?_
    refine R_isub e_X12_undo_1.2.2.2.2.2.2.1 ?_
    refine R_putI 12 41 41 WM_ok e_X12_undo_1.2.2.2.2.2.2.2.1 f_X12_533 km_0 rfl rfl rfl ?_
    refine R_aload_n e_X12_undo_1.2.2.2.2.2.2.2.2.1 0 rfl ?_
    refine R_aload_n e_X12_undo_1.2.2.2.2.2.2.2.2.2 0 rfl ?_
    refine R_getI 12 41 41 e_X12_undo_2.1 f_X12_533 km_0 (fun _ _ => rfl) rfl ?_
    refine R_callV (mc := 0) (ms := 0) (mc' := 0) (ms' := 0) (M' := M_X12_gives) (d' := 0) (as := [vI ((kup (tCp σ (0) ((σ 0 41))) 0 41 (((tCp σ (0) ((σ 0 41))) 0 41) - 1)) 0 41)]) (st := []) 12 1 e_X12_undo_2.2.1 (kCVof m_X12_gives l_X12_97) rfl (by decide) km_0 (by decide) (by decide) rfl rfl (by show (0 : Nat) ≤ 8; decide) ?_
    refine S_X12_gives ?_
    refine R_eqs (st2 := [vI ((kup (tCp σ (0) ((σ 0 41))) 0 41 (((tCp σ (0) ((σ 0 41))) 0 41) - 1)) 0 41)]) (σ2 := (kup (kup (tCp σ (0) ((σ 0 41))) 0 41 (((tCp σ (0) ((σ 0 41))) 0 41) - 1)) 0 2 0)) rfl rfl ?_
    exact R_ireturn e_X12_undo_2.2.2 rfl h
  · replace h := h.2 q
    refine R_aload_n e_X12_undo_0.2.2.2.1 0 rfl ?_
    refine R_bipush e_X12_undo_0.2.2.2.2.1 (by decide) ?_
    refine R_callV (mc := 0) (ms := 0) (mc' := 0) (ms' := 0) (M' := M_X12_refuse) (d' := 0) (as := [vI 6]) (st := []) 12 1 e_X12_undo_0.2.2.2.2.2.1 (kCVof m_X12_refuse l_X12_93) rfl (by decide) km_0 (by decide) (by decide) rfl rfl (by show (0 : Nat) ≤ 8; decide) ?_
    refine S_X12_refuse ?_
    refine R_eqs (st2 := [vI (-1)]) (σ2 := (kup σ 0 2 6)) rfl rfl ?_
    exact R_ireturn e_X12_undo_0.2.2.2.2.2.2.1 rfl h
