/-! KiteLandModel.wrongPlace(II)I -/
theorem e_X12_wrongPlace_0 : decode cX12_wrongPlace 0 = .ok (.iload_n 1, 1) ∧ decode cX12_wrongPlace 1 = .ok (.invokestatic 104, 3) ∧ decode cX12_wrongPlace 4 = .ok (.ifCond .ne 7, 3) ∧ decode cX12_wrongPlace 7 = .ok (.iconst 1, 1) ∧ decode cX12_wrongPlace 8 = .ok (.goto 36, 3) ∧ decode cX12_wrongPlace 11 = .ok (.aload_n 0, 1) ∧ decode cX12_wrongPlace 12 = .ok (.getfield 24, 3) ∧ decode cX12_wrongPlace 15 = .ok (.iload_n 1, 1) ∧ decode cX12_wrongPlace 16 = .ok (.iaload, 1) ∧ decode cX12_wrongPlace 17 = .ok (.iconst (-1), 1) := by decide +kernel
theorem e_X12_wrongPlace_1 : decode cX12_wrongPlace 18 = .ok (.if_icmp .ne 7, 3) ∧ decode cX12_wrongPlace 21 = .ok (.iconst 2, 1) ∧ decode cX12_wrongPlace 22 = .ok (.goto 22, 3) ∧ decode cX12_wrongPlace 25 = .ok (.iload_n 2, 1) ∧ decode cX12_wrongPlace 26 = .ok (.ifCond .lt 13, 3) ∧ decode cX12_wrongPlace 29 = .ok (.iload_n 2, 1) ∧ decode cX12_wrongPlace 30 = .ok (.aload_n 0, 1) ∧ decode cX12_wrongPlace 31 = .ok (.getfield 24, 3) ∧ decode cX12_wrongPlace 34 = .ok (.iload_n 1, 1) ∧ decode cX12_wrongPlace 35 = .ok (.iaload, 1) := by decide +kernel
theorem e_X12_wrongPlace_2 : decode cX12_wrongPlace 36 = .ok (.if_icmp .lt 7, 3) ∧ decode cX12_wrongPlace 39 = .ok (.iconst 3, 1) ∧ decode cX12_wrongPlace 40 = .ok (.goto 4, 3) ∧ decode cX12_wrongPlace 43 = .ok (.iconst 0, 1) ∧ decode cX12_wrongPlace 44 = .ok (.ireturn, 1) := by decide +kernel
theorem S_X12_wrongPlace {G : Kg} {σ : Kmem} {Q : Int → Kmem → Prop} {l1 l2 : Int}  (h : (rI l1) ∧ ((((0 : Int) ≤ l1 ∧ (l1 : Int) < 4) → (0 ≤ l1 ∧ l1 < 4) ∧ (rI (σ 4 l1)) ∧ ((σ 4 l1 ≠ -1 → (rI l2) ∧ ((l2 < 0 → Q 3 σ) ∧ (0 ≤ l2 → (0 ≤ l1 ∧ l1 < 4) ∧ ((l2 < σ 4 l1 → Q 0 σ) ∧ (σ 4 l1 ≤ l2 → Q 3 σ))))) ∧ (σ 4 l1 = -1 → Q 2 σ))) ∧ (¬ ((0 : Int) ≤ l1 ∧ (l1 : Int) < 4) → Q 1 σ))) : Run G WM M_X12_wrongPlace 1 0 0 [vA G 0, vI l1, vI l2] σ Q := by
  refine Run.of (by decide +kernel) (by show (3 : Nat) ≤ 3; decide) ?_
  show Ex G WM M_X12_wrongPlace 1 0 0 0 [(0, vA G 0), (1, vI l1), (2, vI l2)] [] σ Q
  refine R_iload_n e_X12_wrongPlace_0.1 1 rfl ?_
  obtain ⟨q3, h⟩ := h
  refine R_callS (mc := 0) (ms := 0) (mc' := 0) (ms' := 0) (M' := M_X12_isTray) (d' := 0) (as := [vI l1]) (st := []) 1 e_X12_wrongPlace_0.2.1 (kCSof m_X12_isTray l_X12_104) (by decide) (by decide) rfl rfl (by show (0 : Nat) ≤ 8; decide) ?_
  refine Run.mono (P_X12_isTray q3) (fun r s e => ?_)
  obtain ⟨e1, e2⟩ := e
  refine R_eqs (st2 := [vI (kb ((0 : Int) ≤ l1 ∧ (l1 : Int) < 4))]) (σ2 := σ) (by rw [e1]; rfl) e2 ?_
  refine R_if_ne 11 e_X12_wrongPlace_0.2.2.1 (by decide) (kb_r _) (fun q => ?_) (fun q => ?_)
  · replace h := h.1 (kb_t q)
    refine R_aload_n e_X12_wrongPlace_0.2.2.2.2.2.1 0 rfl ?_
    refine R_getA 12 6 4 e_X12_wrongPlace_0.2.2.2.2.2.2.1 f_X12_24 km_0 (fun _ _ => rfl) rm_0_6 (by decide) ?_
    refine R_iload_n e_X12_wrongPlace_0.2.2.2.2.2.2.2.1 1 rfl ?_
    obtain ⟨q4, h⟩ := h
    refine R_iald 4 e_X12_wrongPlace_0.2.2.2.2.2.2.2.2.1 kma_4 q4 ?_
    refine R_iconst e_X12_wrongPlace_0.2.2.2.2.2.2.2.2.2 ?_
    obtain ⟨q5, h⟩ := h
    refine R_icmp_ne 25 e_X12_wrongPlace_1.1 (by decide) q5 (by decide) (fun q => ?_) (fun q => ?_)
    · replace h := h.1 q
      refine R_iload_n e_X12_wrongPlace_1.2.2.2.1 2 rfl ?_
      obtain ⟨q6, h⟩ := h
      refine R_if_lt 39 e_X12_wrongPlace_1.2.2.2.2.1 (by decide) q6  (fun q => ?_) (fun q => ?_)
      · replace h := h.1 q
        refine R_iconst e_X12_wrongPlace_2.2.1 ?_
        refine R_goto 44 e_X12_wrongPlace_2.2.2.1 (by decide) ?_
        exact R_ireturn e_X12_wrongPlace_2.2.2.2.2 rfl h
      · replace h := h.2 q
        refine R_iload_n e_X12_wrongPlace_1.2.2.2.2.2.1 2 rfl ?_
        refine R_aload_n e_X12_wrongPlace_1.2.2.2.2.2.2.1 0 rfl ?_
        refine R_getA 12 6 4 e_X12_wrongPlace_1.2.2.2.2.2.2.2.1 f_X12_24 km_0 (fun _ _ => rfl) rm_0_6 (by decide) ?_
        refine R_iload_n e_X12_wrongPlace_1.2.2.2.2.2.2.2.2.1 1 rfl ?_
        obtain ⟨q7, h⟩ := h
        refine R_iald 4 e_X12_wrongPlace_1.2.2.2.2.2.2.2.2.2 kma_4 q7 ?_
        refine R_icmp_lt 43 e_X12_wrongPlace_2.1 (by decide) q6 q5 (fun q => ?_) (fun q => ?_)
        · replace h := h.1 q
          refine R_iconst e_X12_wrongPlace_2.2.2.2.1 ?_
          exact R_ireturn e_X12_wrongPlace_2.2.2.2.2 rfl h
        · replace h := h.2 q
          refine R_iconst e_X12_wrongPlace_2.2.1 ?_
          refine R_goto 44 e_X12_wrongPlace_2.2.2.1 (by decide) ?_
          exact R_ireturn e_X12_wrongPlace_2.2.2.2.2 rfl h
    · replace h := h.2 q
      refine R_iconst e_X12_wrongPlace_1.2.1 ?_
      refine R_goto 44 e_X12_wrongPlace_1.2.2.1 (by decide) ?_
      exact R_ireturn e_X12_wrongPlace_2.2.2.2.2 rfl h
  · replace h := h.2 (kb_f q)
    refine R_iconst e_X12_wrongPlace_0.2.2.2.1 ?_
    refine R_goto 44 e_X12_wrongPlace_0.2.2.2.2.1 (by decide) ?_
    exact R_ireturn e_X12_wrongPlace_2.2.2.2.2 rfl h
/-! KiteLandModel.wrongStrip(II)I -/
theorem e_X12_wrongStrip_0 : decode cX12_wrongStrip 0 = .ok (.aload_n 0, 1) ∧ decode cX12_wrongStrip 1 = .ok (.iload_n 1, 1) ∧ decode cX12_wrongStrip 2 = .ok (.invokevirtual 468, 3) ∧ decode cX12_wrongStrip 5 = .ok (.ifCond .eq 10, 3) ∧ decode cX12_wrongStrip 8 = .ok (.iload_n 2, 1) ∧ decode cX12_wrongStrip 9 = .ok (.invokestatic 104, 3) ∧ decode cX12_wrongStrip 12 = .ok (.ifCond .ne 7, 3) ∧ decode cX12_wrongStrip 15 = .ok (.iconst 1, 1) ∧ decode cX12_wrongStrip 16 = .ok (.goto 37, 3) ∧ decode cX12_wrongStrip 19 = .ok (.aload_n 0, 1) := by decide +kernel
theorem e_X12_wrongStrip_1 : decode cX12_wrongStrip 20 = .ok (.getfield 24, 3) ∧ decode cX12_wrongStrip 23 = .ok (.iload_n 2, 1) ∧ decode cX12_wrongStrip 24 = .ok (.iaload, 1) ∧ decode cX12_wrongStrip 25 = .ok (.iconst (-1), 1) ∧ decode cX12_wrongStrip 26 = .ok (.if_icmp .ne 7, 3) ∧ decode cX12_wrongStrip 29 = .ok (.iconst 2, 1) ∧ decode cX12_wrongStrip 30 = .ok (.goto 23, 3) ∧ decode cX12_wrongStrip 33 = .ok (.aload_n 0, 1) ∧ decode cX12_wrongStrip 34 = .ok (.getfield 24, 3) ∧ decode cX12_wrongStrip 37 = .ok (.iload_n 2, 1) := by decide +kernel
theorem e_X12_wrongStrip_2 : decode cX12_wrongStrip 38 = .ok (.iaload, 1) ∧ decode cX12_wrongStrip 39 = .ok (.aload_n 0, 1) ∧ decode cX12_wrongStrip 40 = .ok (.getfield 7, 3) ∧ decode cX12_wrongStrip 43 = .ok (.iconst 0, 1) ∧ decode cX12_wrongStrip 44 = .ok (.iaload, 1) ∧ decode cX12_wrongStrip 45 = .ok (.if_icmp .ge 7, 3) ∧ decode cX12_wrongStrip 48 = .ok (.iconst 3, 1) ∧ decode cX12_wrongStrip 49 = .ok (.goto 4, 3) ∧ decode cX12_wrongStrip 52 = .ok (.iconst 0, 1) ∧ decode cX12_wrongStrip 53 = .ok (.ireturn, 1) := by decide +kernel
theorem S_X12_wrongStrip {G : Kg} {σ : Kmem} {Q : Int → Kmem → Prop} {l1 l2 : Int}  (h : (rI (l1) ∧ wf (σ 1)) ∧ ((¬ (0 ≤ l1 ∧ (l1 : Int) < (σ 1) 1) → Q 1 σ) ∧ ((0 ≤ l1 ∧ (l1 : Int) < (σ 1) 1) → (rI l2) ∧ ((((0 : Int) ≤ l2 ∧ (l2 : Int) < 4) → (0 ≤ l2 ∧ l2 < 4) ∧ (rI (σ 4 l2)) ∧ ((σ 4 l2 ≠ -1 → (0 ≤ l2 ∧ l2 < 4) ∧ (rI (σ 1 0)) ∧ ((σ 1 0 ≤ σ 4 l2 → Q 0 σ) ∧ (σ 4 l2 < σ 1 0 → Q 3 σ))) ∧ (σ 4 l2 = -1 → Q 2 σ))) ∧ (¬ ((0 : Int) ≤ l2 ∧ (l2 : Int) < 4) → Q 1 σ))))) : Run G WM M_X12_wrongStrip 1 0 0 [vA G 0, vI l1, vI l2] σ Q := by
  refine Run.of (by decide +kernel) (by show (3 : Nat) ≤ 3; decide) ?_
  show Ex G WM M_X12_wrongStrip 1 0 0 0 [(0, vA G 0), (1, vI l1), (2, vI l2)] [] σ Q
  refine R_aload_n e_X12_wrongStrip_0.1 0 rfl ?_
  refine R_iload_n e_X12_wrongStrip_0.2.1 1 rfl ?_
  obtain ⟨q3, h⟩ := h
  refine R_callV (mc := 0) (ms := 0) (mc' := 0) (ms' := 0) (M' := M_X12_isRow) (d' := 0) (as := [vI l1]) (st := []) 12 1 e_X12_wrongStrip_0.2.2.1 (kCVof m_X12_isRow l_X12_468) rfl (by decide) km_0 (by decide) (by decide) rfl rfl (by show (0 : Nat) ≤ 8; decide) ?_
  refine Run.mono (P_X12_isRow q3) (fun r s e => ?_)
  obtain ⟨e1, e2⟩ := e
  refine R_eqs (st2 := [vI (kb (0 ≤ l1 ∧ (l1 : Int) < (σ 1) 1))]) (σ2 := σ) (by rw [e1]; rfl) e2 ?_
  refine R_if_eq 15 e_X12_wrongStrip_0.2.2.2.1 (by decide) (kb_r _) (fun q => ?_) (fun q => ?_)
  · replace h := h.1 (kb_f q)
    refine R_iconst e_X12_wrongStrip_0.2.2.2.2.2.2.2.1 ?_
    refine R_goto 53 e_X12_wrongStrip_0.2.2.2.2.2.2.2.2.1 (by decide) ?_
    exact R_ireturn e_X12_wrongStrip_2.2.2.2.2.2.2.2.2.2 rfl h
  · replace h := h.2 (kb_t q)
    refine R_iload_n e_X12_wrongStrip_0.2.2.2.2.1 2 rfl ?_
    obtain ⟨q6, h⟩ := h
    refine R_callS (mc := 0) (ms := 0) (mc' := 0) (ms' := 0) (M' := M_X12_isTray) (d' := 0) (as := [vI l2]) (st := []) 1 e_X12_wrongStrip_0.2.2.2.2.2.1 (kCSof m_X12_isTray l_X12_104) (by decide) (by decide) rfl rfl (by show (0 : Nat) ≤ 8; decide) ?_
    refine Run.mono (P_X12_isTray q6) (fun r s e => ?_)
    obtain ⟨e1, e2⟩ := e
    refine R_eqs (st2 := [vI (kb ((0 : Int) ≤ l2 ∧ (l2 : Int) < 4))]) (σ2 := σ) (by rw [e1]; rfl) e2 ?_
    refine R_if_ne 19 e_X12_wrongStrip_0.2.2.2.2.2.2.1 (by decide) (kb_r _) (fun q => ?_) (fun q => ?_)
    · replace h := h.1 (kb_t q)
      refine R_aload_n e_X12_wrongStrip_0.2.2.2.2.2.2.2.2.2 0 rfl ?_
      refine R_getA 12 6 4 e_X12_wrongStrip_1.1 f_X12_24 km_0 (fun _ _ => rfl) rm_0_6 (by decide) ?_
      refine R_iload_n e_X12_wrongStrip_1.2.1 2 rfl ?_
      obtain ⟨q7, h⟩ := h
      refine R_iald 4 e_X12_wrongStrip_1.2.2.1 kma_4 q7 ?_
      refine R_iconst e_X12_wrongStrip_1.2.2.2.1 ?_
      obtain ⟨q8, h⟩ := h
      refine R_icmp_ne 33 e_X12_wrongStrip_1.2.2.2.2.1 (by decide) q8 (by decide) (fun q => ?_) (fun q => ?_)
      · replace h := h.1 q
        refine R_aload_n e_X12_wrongStrip_1.2.2.2.2.2.2.2.1 0 rfl ?_
        refine R_getA 12 6 4 e_X12_wrongStrip_1.2.2.2.2.2.2.2.2.1 f_X12_24 km_0 (fun _ _ => rfl) rm_0_6 (by decide) ?_
        refine R_iload_n e_X12_wrongStrip_1.2.2.2.2.2.2.2.2.2 2 rfl ?_
        obtain ⟨q9, h⟩ := h
        refine R_iald 4 e_X12_wrongStrip_2.1 kma_4 q9 ?_
        refine R_aload_n e_X12_wrongStrip_2.2.1 0 rfl ?_
        refine R_getA 12 0 1 e_X12_wrongStrip_2.2.2.1 f_X12_7 km_0 (fun _ _ => rfl) rm_0_0 (by decide) ?_
        refine R_iconst e_X12_wrongStrip_2.2.2.2.1 ?_
        refine R_iald 3598 e_X12_wrongStrip_2.2.2.2.2.1 kma_1 (by decide) ?_
        obtain ⟨q10, h⟩ := h
        refine R_icmp_ge 52 e_X12_wrongStrip_2.2.2.2.2.2.1 (by decide) q8 q10 (fun q => ?_) (fun q => ?_)
        · replace h := h.1 q
          refine R_iconst e_X12_wrongStrip_2.2.2.2.2.2.2.2.2.1 ?_
          exact R_ireturn e_X12_wrongStrip_2.2.2.2.2.2.2.2.2.2 rfl h
        · replace h := h.2 q
          refine R_iconst e_X12_wrongStrip_2.2.2.2.2.2.2.1 ?_
          refine R_goto 53 e_X12_wrongStrip_2.2.2.2.2.2.2.2.1 (by decide) ?_
          exact R_ireturn e_X12_wrongStrip_2.2.2.2.2.2.2.2.2.2 rfl h
      · replace h := h.2 q
        refine R_iconst e_X12_wrongStrip_1.2.2.2.2.2.1 ?_
        refine R_goto 53 e_X12_wrongStrip_1.2.2.2.2.2.2.1 (by decide) ?_
        exact R_ireturn e_X12_wrongStrip_2.2.2.2.2.2.2.2.2.2 rfl h
    · replace h := h.2 (kb_f q)
      refine R_iconst e_X12_wrongStrip_0.2.2.2.2.2.2.2.1 ?_
      refine R_goto 53 e_X12_wrongStrip_0.2.2.2.2.2.2.2.2.1 (by decide) ?_
      exact R_ireturn e_X12_wrongStrip_2.2.2.2.2.2.2.2.2.2 rfl h
/-! KiteLandModel.wrongCover(III)I -/
theorem e_X12_wrongCover_0 : decode cX12_wrongCover 0 = .ok (.iload_n 1, 1) ∧ decode cX12_wrongCover 1 = .ok (.invokestatic 104, 3) ∧ decode cX12_wrongCover 4 = .ok (.ifCond .eq 22, 3) ∧ decode cX12_wrongCover 7 = .ok (.iload_n 2, 1) ∧ decode cX12_wrongCover 8 = .ok (.i2l, 1) ∧ decode cX12_wrongCover 9 = .ok (.lconst 1, 1) ∧ decode cX12_wrongCover 10 = .ok (.ldc2_w 449, 3) ∧ decode cX12_wrongCover 13 = .ok (.invokestatic 393, 3) ∧ decode cX12_wrongCover 16 = .ok (.ifCond .eq 10, 3) ∧ decode cX12_wrongCover 19 = .ok (.iload_n 3, 1) := by decide +kernel
theorem e_X12_wrongCover_1 : decode cX12_wrongCover 20 = .ok (.invokestatic 340, 3) ∧ decode cX12_wrongCover 23 = .ok (.ifCond .ne 5, 3) ∧ decode cX12_wrongCover 26 = .ok (.iconst 1, 1) ∧ decode cX12_wrongCover 27 = .ok (.ireturn, 1) ∧ decode cX12_wrongCover 28 = .ok (.aload_n 0, 1) ∧ decode cX12_wrongCover 29 = .ok (.getfield 24, 3) ∧ decode cX12_wrongCover 32 = .ok (.iload_n 1, 1) ∧ decode cX12_wrongCover 33 = .ok (.iaload, 1) ∧ decode cX12_wrongCover 34 = .ok (.iconst (-1), 1) ∧ decode cX12_wrongCover 35 = .ok (.if_icmp .ne 5, 3) := by decide +kernel
theorem e_X12_wrongCover_2 : decode cX12_wrongCover 38 = .ok (.iconst 2, 1) ∧ decode cX12_wrongCover 39 = .ok (.ireturn, 1) ∧ decode cX12_wrongCover 40 = .ok (.aload_n 0, 1) ∧ decode cX12_wrongCover 41 = .ok (.getfield 24, 3) ∧ decode cX12_wrongCover 44 = .ok (.iload_n 1, 1) ∧ decode cX12_wrongCover 45 = .ok (.iaload, 1) ∧ decode cX12_wrongCover 46 = .ok (.iload_n 2, 1) ∧ decode cX12_wrongCover 47 = .ok (.if_icmp .ge 5, 3) ∧ decode cX12_wrongCover 50 = .ok (.iconst 3, 1) ∧ decode cX12_wrongCover 51 = .ok (.ireturn, 1) := by decide +kernel
theorem e_X12_wrongCover_3 : decode cX12_wrongCover 52 = .ok (.iconst 0, 1) ∧ decode cX12_wrongCover 53 = .ok (.istore 4, 2) ∧ decode cX12_wrongCover 55 = .ok (.iload 4, 2) ∧ decode cX12_wrongCover 57 = .ok (.iload_n 2, 1) ∧ decode cX12_wrongCover 58 = .ok (.if_icmp .ge 72, 3) ∧ decode cX12_wrongCover 61 = .ok (.aload_n 0, 1) ∧ decode cX12_wrongCover 62 = .ok (.getfield 27, 3) ∧ decode cX12_wrongCover 65 = .ok (.bipush 60, 2) ∧ decode cX12_wrongCover 67 = .ok (.iload_n 1, 1) ∧ decode cX12_wrongCover 68 = .ok (.imul, 1) := by decide +kernel
theorem e_X12_wrongCover_4 : decode cX12_wrongCover 69 = .ok (.iload 4, 2) ∧ decode cX12_wrongCover 71 = .ok (.iadd, 1) ∧ decode cX12_wrongCover 72 = .ok (.laload, 1) ∧ decode cX12_wrongCover 73 = .ok (.lconst 0, 1) ∧ decode cX12_wrongCover 74 = .ok (.ldc2_w 451, 3) ∧ decode cX12_wrongCover 77 = .ok (.invokestatic 393, 3) ∧ decode cX12_wrongCover 80 = .ok (.ifCond .eq 42, 3) ∧ decode cX12_wrongCover 83 = .ok (.aload_n 0, 1) ∧ decode cX12_wrongCover 84 = .ok (.aload_n 0, 1) ∧ decode cX12_wrongCover 85 = .ok (.getfield 27, 3) := by decide +kernel
theorem e_X12_wrongCover_5 : decode cX12_wrongCover 88 = .ok (.bipush 60, 2) ∧ decode cX12_wrongCover 90 = .ok (.iload_n 1, 1) ∧ decode cX12_wrongCover 91 = .ok (.imul, 1) ∧ decode cX12_wrongCover 92 = .ok (.iload 4, 2) ∧ decode cX12_wrongCover 94 = .ok (.iadd, 1) ∧ decode cX12_wrongCover 95 = .ok (.laload, 1) ∧ decode cX12_wrongCover 96 = .ok (.l2i, 1) ∧ decode cX12_wrongCover 97 = .ok (.bipush 10, 2) ∧ decode cX12_wrongCover 99 = .ok (.irem, 1) ∧ decode cX12_wrongCover 100 = .ok (.aload_n 0, 1) := by decide +kernel
theorem e_X12_wrongCover_6 : decode cX12_wrongCover 101 = .ok (.getfield 27, 3) ∧ decode cX12_wrongCover 104 = .ok (.bipush 60, 2) ∧ decode cX12_wrongCover 106 = .ok (.iload_n 1, 1) ∧ decode cX12_wrongCover 107 = .ok (.imul, 1) ∧ decode cX12_wrongCover 108 = .ok (.iload 4, 2) ∧ decode cX12_wrongCover 110 = .ok (.iadd, 1) ∧ decode cX12_wrongCover 111 = .ok (.laload, 1) ∧ decode cX12_wrongCover 112 = .ok (.l2i, 1) ∧ decode cX12_wrongCover 113 = .ok (.bipush 10, 2) ∧ decode cX12_wrongCover 115 = .ok (.idiv, 1) := by decide +kernel
theorem e_X12_wrongCover_7 : decode cX12_wrongCover 116 = .ok (.invokevirtual 355, 3) ∧ decode cX12_wrongCover 119 = .ok (.ifCond .ne 5, 3) ∧ decode cX12_wrongCover 122 = .ok (.iconst 5, 1) ∧ decode cX12_wrongCover 123 = .ok (.ireturn, 1) ∧ decode cX12_wrongCover 124 = .ok (.iinc 4 1, 3) ∧ decode cX12_wrongCover 127 = .ok (.goto (-72), 3) ∧ decode cX12_wrongCover 130 = .ok (.iconst 0, 1) ∧ decode cX12_wrongCover 131 = .ok (.ireturn, 1) := by decide +kernel
abbrev E_X12_wrongCover_55 (G : Kg) (l1 l2 l4 : Int) (σ : Kmem) (Q : Int → Kmem → Prop) : Prop := Ex G WM M_X12_wrongCover 1 0 0 55 [(0, vA G 0), (1, vI l1), (2, vI l2), (4, vI l4)] [] σ Q
theorem S_X12_wrongCover {G : Kg} {σ : Kmem} {Q : Int → Kmem → Prop} {l1 l2 l3 : Int}  (h : (rI l1) ∧ ((¬ ((0 : Int) ≤ l1 ∧ (l1 : Int) < 4) → Q 1 σ) ∧ (((0 : Int) ≤ l1 ∧ (l1 : Int) < 4) → (rI l2) ∧ (rL l2 ∧ rL 1 ∧ rL 20) ∧ ((¬ ((1 : Int) ≤ l2 ∧ (l2 : Int) ≤ 20) → Q 1 σ) ∧ (((1 : Int) ≤ l2 ∧ (l2 : Int) ≤ 20) → (rI (l3)) ∧ (((sHr (l3)) → (0 ≤ l1 ∧ l1 < 4) ∧ (rI (σ 4 l1)) ∧ ((σ 4 l1 ≠ -1 → (0 ≤ l1 ∧ l1 < 4) ∧ ((l2 ≤ σ 4 l1 → E_X12_wrongCover_55 G l1 l2 0 σ Q) ∧ (σ 4 l1 < l2 → Q 3 σ))) ∧ (σ 4 l1 = -1 → Q 2 σ))) ∧ (¬ (sHr (l3)) → Q 1 σ))))))) : Run G WM M_X12_wrongCover 1 0 0 [vA G 0, vI l1, vI l2, vI l3] σ Q := by
  refine Run.of (by decide +kernel) (by show (4 : Nat) ≤ 5; decide) ?_
  show Ex G WM M_X12_wrongCover 1 0 0 0 [(0, vA G 0), (1, vI l1), (2, vI l2), (3, vI l3)] [] σ Q
  refine R_iload_n e_X12_wrongCover_0.1 1 rfl ?_
  obtain ⟨q3, h⟩ := h
  refine R_callS (mc := 0) (ms := 0) (mc' := 0) (ms' := 0) (M' := M_X12_isTray) (d' := 0) (as := [vI l1]) (st := []) 1 e_X12_wrongCover_0.2.1 (kCSof m_X12_isTray l_X12_104) (by decide) (by decide) rfl rfl (by show (0 : Nat) ≤ 8; decide) ?_
  refine Run.mono (P_X12_isTray q3) (fun r s e => ?_)
  obtain ⟨e1, e2⟩ := e
  refine R_eqs (st2 := [vI (kb ((0 : Int) ≤ l1 ∧ (l1 : Int) < 4))]) (σ2 := σ) (by rw [e1]; rfl) e2 ?_
  refine R_if_eq 26 e_X12_wrongCover_0.2.2.1 (by decide) (kb_r _) (fun q => ?_) (fun q => ?_)
  · replace h := h.1 (kb_f q)
    refine R_iconst e_X12_wrongCover_1.2.2.1 ?_
    exact R_ireturn e_X12_wrongCover_1.2.2.2.1 rfl h
  · replace h := h.2 (kb_t q)
    refine R_iload_n e_X12_wrongCover_0.2.2.2.1 2 rfl ?_
    obtain ⟨q4, h⟩ := h
    refine R_i2l e_X12_wrongCover_0.2.2.2.2.1 q4 ?_
    refine R_lconst 1 e_X12_wrongCover_0.2.2.2.2.2.1 (by decide) ?_
    refine R_ldc2 (20) k_X12_449 e_X12_wrongCover_0.2.2.2.2.2.2.1 ?_
    obtain ⟨q7, h⟩ := h
    refine R_callS (mc := 0) (ms := 0) (mc' := 0) (ms' := 0) (M' := M_X12_isFrom) (d' := 0) (as := [vL l2, vL 1, vL 20]) (st := []) 3 e_X12_wrongCover_0.2.2.2.2.2.2.2.1 (kCSof m_X12_isFrom l_X12_393) (by decide) (by decide) rfl rfl (by show (0 : Nat) ≤ 8; decide) ?_
    refine Run.mono (P_X12_isFrom q7) (fun r s e => ?_)
    obtain ⟨e1, e2⟩ := e
    refine R_eqs (st2 := [vI (kb ((1 : Int) ≤ l2 ∧ (l2 : Int) ≤ 20))]) (σ2 := σ) (by rw [e1]; rfl) e2 ?_
    refine R_if_eq 26 e_X12_wrongCover_0.2.2.2.2.2.2.2.2.1 (by decide) (kb_r _) (fun q => ?_) (fun q => ?_)
    · replace h := h.1 (kb_f q)
      refine R_iconst e_X12_wrongCover_1.2.2.1 ?_
      exact R_ireturn e_X12_wrongCover_1.2.2.2.1 rfl h
    · replace h := h.2 (kb_t q)
      refine R_iload_n e_X12_wrongCover_0.2.2.2.2.2.2.2.2.2 3 rfl ?_
      obtain ⟨q10, h⟩ := h
      refine R_callS (mc := 0) (ms := 0) (mc' := 0) (ms' := 0) (M' := M_X12_isHour) (d' := 0) (as := [vI l3]) (st := []) 1 e_X12_wrongCover_1.1 (kCSof m_X12_isHour l_X12_340) (by decide) (by decide) rfl rfl (by show (0 : Nat) ≤ 8; decide) ?_
      refine Run.mono (P_X12_isHour q10) (fun r s e => ?_)
      obtain ⟨e1, e2⟩ := e
      refine R_eqs (st2 := [vI (kb (sHr (l3)))]) (σ2 := σ) (by rw [e1]; rfl) e2 ?_
      refine R_if_ne 28 e_X12_wrongCover_1.2.1 (by decide) (kb_r _) (fun q => ?_) (fun q => ?_)
      · replace h := h.1 (kb_t q)
        refine R_aload_n e_X12_wrongCover_1.2.2.2.2.1 0 rfl ?_
        refine R_getA 12 6 4 e_X12_wrongCover_1.2.2.2.2.2.1 f_X12_24 km_0 (fun _ _ => rfl) rm_0_6 (by decide) ?_
        refine R_iload_n e_X12_wrongCover_1.2.2.2.2.2.2.1 1 rfl ?_
        obtain ⟨q11, h⟩ := h
        refine R_iald 4 e_X12_wrongCover_1.2.2.2.2.2.2.2.1 kma_4 q11 ?_
        refine R_iconst e_X12_wrongCover_1.2.2.2.2.2.2.2.2.1 ?_
        obtain ⟨q12, h⟩ := h
        refine R_icmp_ne 40 e_X12_wrongCover_1.2.2.2.2.2.2.2.2.2 (by decide) q12 (by decide) (fun q => ?_) (fun q => ?_)
        · replace h := h.1 q
          refine R_aload_n e_X12_wrongCover_2.2.2.1 0 rfl ?_
          refine R_getA 12 6 4 e_X12_wrongCover_2.2.2.2.1 f_X12_24 km_0 (fun _ _ => rfl) rm_0_6 (by decide) ?_
          refine R_iload_n e_X12_wrongCover_2.2.2.2.2.1 1 rfl ?_
          obtain ⟨q13, h⟩ := h
          refine R_iald 4 e_X12_wrongCover_2.2.2.2.2.2.1 kma_4 q13 ?_
          refine R_iload_n e_X12_wrongCover_2.2.2.2.2.2.2.1 2 rfl ?_
          refine R_icmp_ge 52 e_X12_wrongCover_2.2.2.2.2.2.2.2.1 (by decide) q12 q4 (fun q => ?_) (fun q => ?_)
          · replace h := h.1 q
            refine R_iconst e_X12_wrongCover_3.1 ?_
            refine R_istore (ls2 := [(4, vI 0), (0, vA G 0), (1, vI l1), (2, vI l2), (3, vI l3)]) e_X12_wrongCover_3.2.1 (by decide) rfl ?_
            refine R_ls (ls2 := [(0, vA G 0), (1, vI l1), (2, vI l2), (4, vI 0)]) [1, 2, 3, 0] rfl ?_
            exact h
          · replace h := h.2 q
            refine R_iconst e_X12_wrongCover_2.2.2.2.2.2.2.2.2.1 ?_
            exact R_ireturn e_X12_wrongCover_2.2.2.2.2.2.2.2.2.2 rfl h
        · replace h := h.2 q
          refine R_iconst e_X12_wrongCover_2.1 ?_
          exact R_ireturn e_X12_wrongCover_2.2.1 rfl h
      · replace h := h.2 (kb_f q)
        refine R_iconst e_X12_wrongCover_1.2.2.1 ?_
        exact R_ireturn e_X12_wrongCover_1.2.2.2.1 rfl h
theorem S_X12_wrongCover_55 {G : Kg} {σ : Kmem} {Q : Int → Kmem → Prop} {l1 l2 l3 l4 : Int}  (h : (rI l4) ∧ (rI l2) ∧ ((l2 ≤ l4 → Q 0 σ) ∧ (l4 < l2 → (0 ≤ (60 * l1) + l4 ∧ (60 * l1) + l4 < 240) ∧ (rL (σ 5 ((60 * l1) + l4)) ∧ rL 0 ∧ rL 69) ∧ ((¬ ((0 : Int) ≤ (σ 5 ((60 * l1) + l4)) ∧ ((σ 5 ((60 * l1) + l4)) : Int) ≤ 69) → Q 5 σ) ∧ (((0 : Int) ≤ (σ 5 ((60 * l1) + l4)) ∧ ((σ 5 ((60 * l1) + l4)) : Int) ≤ 69) → (0 ≤ (60 * l1) + l4 ∧ (60 * l1) + l4 < 240) ∧ (0 ≤ σ 5 ((60 * l1) + l4) ∧ σ 5 ((60 * l1) + l4) ≤ 2147483647) ∧ (0 ≤ (60 * l1) + l4 ∧ (60 * l1) + l4 < 240) ∧ (0 ≤ σ 5 ((60 * l1) + l4) ∧ σ 5 ((60 * l1) + l4) ≤ 2147483647) ∧ ((rI (((σ 5 ((60 * l1) + l4)) % 10)) ∧ rI (((σ 5 ((60 * l1) + l4)) / 10))) ∧ wf (σ 1)) ∧ (((sFld (σ 1) (((σ 5 ((60 * l1) + l4)) % 10)) (((σ 5 ((60 * l1) + l4)) / 10))) → E_X12_wrongCover_55 G l1 l2 (l4 + 1) σ Q) ∧ (¬ (sFld (σ 1) (((σ 5 ((60 * l1) + l4)) % 10)) (((σ 5 ((60 * l1) + l4)) / 10))) → Q 5 σ))))))) : E_X12_wrongCover_55 G l1 l2 l4 σ Q := by
  refine R_iload e_X12_wrongCover_3.2.2.1 3 rfl ?_
  refine R_iload_n e_X12_wrongCover_3.2.2.2.1 2 rfl ?_
  obtain ⟨q14, h⟩ := h
  obtain ⟨q15, h⟩ := h
  refine R_icmp_ge 130 e_X12_wrongCover_3.2.2.2.2.1 (by decide) q14 q15 (fun q => ?_) (fun q => ?_)
  · replace h := h.1 q
    refine R_iconst e_X12_wrongCover_7.2.2.2.2.2.2.1 ?_
    exact R_ireturn e_X12_wrongCover_7.2.2.2.2.2.2.2 rfl h
  · replace h := h.2 q
    refine R_aload_n e_X12_wrongCover_3.2.2.2.2.2.1 0 rfl ?_
    refine R_getA 12 7 5 e_X12_wrongCover_3.2.2.2.2.2.2.1 f_X12_27 km_0 (fun _ _ => rfl) rm_0_7 (by decide) ?_
    refine R_bipush e_X12_wrongCover_3.2.2.2.2.2.2.2.1 (by decide) ?_
    refine R_iload_n e_X12_wrongCover_3.2.2.2.2.2.2.2.2.1 1 rfl ?_
    refine R_imul e_X12_wrongCover_3.2.2.2.2.2.2.2.2.2 ?_
    refine R_iload e_X12_wrongCover_4.1 3 rfl ?_
    refine R_iadd e_X12_wrongCover_4.2.1 ?_
    obtain ⟨q16, h⟩ := h
    refine R_lald 240 e_X12_wrongCover_4.2.2.1 kma_5 q16 ?_
    refine R_lconst 0 e_X12_wrongCover_4.2.2.2.1 (by decide) ?_
    refine R_ldc2 (69) k_X12_451 e_X12_wrongCover_4.2.2.2.2.1 ?_
    obtain ⟨q19, h⟩ := h
    refine R_callS (mc := 0) (ms := 0) (mc' := 0) (ms' := 0) (M' := M_X12_isFrom) (d' := 0) (as := [vL (σ 5 ((60 * l1) + l4)), vL 0, vL 69]) (st := []) 3 e_X12_wrongCover_4.2.2.2.2.2.1 (kCSof m_X12_isFrom l_X12_393) (by decide) (by decide) rfl rfl (by show (0 : Nat) ≤ 8; decide) ?_
    refine Run.mono (P_X12_isFrom q19) (fun r s e => ?_)
    obtain ⟨e1, e2⟩ := e
    refine R_eqs (st2 := [vI (kb ((0 : Int) ≤ (σ 5 ((60 * l1) + l4)) ∧ ((σ 5 ((60 * l1) + l4)) : Int) ≤ 69))]) (σ2 := σ) (by rw [e1]; rfl) e2 ?_
    refine R_if_eq 122 e_X12_wrongCover_4.2.2.2.2.2.2.1 (by decide) (kb_r _) (fun q => ?_) (fun q => ?_)
    · replace h := h.1 (kb_f q)
      refine R_iconst e_X12_wrongCover_7.2.2.1 ?_
      exact R_ireturn e_X12_wrongCover_7.2.2.2.1 rfl h
    · replace h := h.2 (kb_t q)
      refine R_aload_n e_X12_wrongCover_4.2.2.2.2.2.2.2.1 0 rfl ?_
      refine R_aload_n e_X12_wrongCover_4.2.2.2.2.2.2.2.2.1 0 rfl ?_
      refine R_getA 12 7 5 e_X12_wrongCover_4.2.2.2.2.2.2.2.2.2 f_X12_27 km_0 (fun _ _ => rfl) rm_0_7 (by decide) ?_
      refine R_bipush e_X12_wrongCover_5.1 (by decide) ?_
      refine R_iload_n e_X12_wrongCover_5.2.1 1 rfl ?_
      refine R_imul e_X12_wrongCover_5.2.2.1 ?_
      refine R_iload e_X12_wrongCover_5.2.2.2.1 3 rfl ?_
      refine R_iadd e_X12_wrongCover_5.2.2.2.2.1 ?_
      obtain ⟨q20, h⟩ := h
      refine R_lald 240 e_X12_wrongCover_5.2.2.2.2.2.1 kma_5 q20 ?_
      refine R_l2i e_X12_wrongCover_5.2.2.2.2.2.2.1 ?_
      refine R_bipush e_X12_wrongCover_5.2.2.2.2.2.2.2.1 (by decide) ?_
      obtain ⟨q21, h⟩ := h
      refine R_irem e_X12_wrongCover_5.2.2.2.2.2.2.2.2.1 q21 (by decide) ?_
      refine R_aload_n e_X12_wrongCover_5.2.2.2.2.2.2.2.2.2 0 rfl ?_
      refine R_getA 12 7 5 e_X12_wrongCover_6.1 f_X12_27 km_0 (fun _ _ => rfl) rm_0_7 (by decide) ?_
      refine R_bipush e_X12_wrongCover_6.2.1 (by decide) ?_
      refine R_iload_n e_X12_wrongCover_6.2.2.1 1 rfl ?_
      refine R_imul e_X12_wrongCover_6.2.2.2.1 ?_
      refine R_iload e_X12_wrongCover_6.2.2.2.2.1 3 rfl ?_
      refine R_iadd e_X12_wrongCover_6.2.2.2.2.2.1 ?_
      obtain ⟨q22, h⟩ := h
      refine R_lald 240 e_X12_wrongCover_6.2.2.2.2.2.2.1 kma_5 q22 ?_
      refine R_l2i e_X12_wrongCover_6.2.2.2.2.2.2.2.1 ?_
      refine R_bipush e_X12_wrongCover_6.2.2.2.2.2.2.2.2.1 (by decide) ?_
      obtain ⟨q23, h⟩ := h
      refine R_idiv e_X12_wrongCover_6.2.2.2.2.2.2.2.2.2 q23 (by decide) ?_
      obtain ⟨q26, h⟩ := h
      refine R_callV (mc := 0) (ms := 0) (mc' := 0) (ms' := 0) (M' := M_X12_isField) (d' := 0) (as := [vI ((σ 5 ((60 * l1) + l4)) % 10), vI ((σ 5 ((60 * l1) + l4)) / 10)]) (st := []) 12 2 e_X12_wrongCover_7.1 (kCVof m_X12_isField l_X12_355) rfl (by decide) km_0 (by decide) (by decide) rfl rfl (by show (0 : Nat) ≤ 8; decide) ?_
      refine Run.mono (P_X12_isField q26) (fun r s e => ?_)
      obtain ⟨e1, e2⟩ := e
      refine R_eqs (st2 := [vI (kb (sFld (σ 1) (((σ 5 ((60 * l1) + l4)) % 10)) (((σ 5 ((60 * l1) + l4)) / 10))))]) (σ2 := σ) (by rw [e1]; rfl) e2 ?_
      refine R_if_ne 124 e_X12_wrongCover_7.2.1 (by decide) (kb_r _) (fun q => ?_) (fun q => ?_)
      · replace h := h.1 (kb_t q)
        refine R_iinc (ls2 := [(4, vI (l4 + 1)), (0, vA G 0), (1, vI l1), (2, vI l2)]) e_X12_wrongCover_7.2.2.2.2.1 3 rfl (by decide) rfl ?_
        refine R_goto 55 e_X12_wrongCover_7.2.2.2.2.2.1 (by decide) ?_
        refine R_ls (ls2 := [(0, vA G 0), (1, vI l1), (2, vI l2), (4, vI (l4 + 1))]) [1, 2, 3, 0] rfl ?_
        exact h
      · replace h := h.2 (kb_f q)
        refine R_iconst e_X12_wrongCover_7.2.2.1 ?_
        exact R_ireturn e_X12_wrongCover_7.2.2.2.1 rfl h
/-! KiteLandModel.coverOf(III)I -/
theorem e_X12_coverOf_0 : decode cX12_coverOf 0 = .ok (.iconst (-1), 1) ∧ decode cX12_coverOf 1 = .ok (.istore 4, 2) ∧ decode cX12_coverOf 3 = .ok (.iconst 0, 1) ∧ decode cX12_coverOf 4 = .ok (.istore 5, 2) ∧ decode cX12_coverOf 6 = .ok (.iload 5, 2) ∧ decode cX12_coverOf 8 = .ok (.iconst 1, 1) ∧ decode cX12_coverOf 9 = .ok (.aload_n 0, 1) ∧ decode cX12_coverOf 10 = .ok (.getfield 7, 3) ∧ decode cX12_coverOf 13 = .ok (.iconst 2, 1) ∧ decode cX12_coverOf 14 = .ok (.iaload, 1) := by decide +kernel
theorem e_X12_coverOf_1 : decode cX12_coverOf 15 = .ok (.ishl, 1) ∧ decode cX12_coverOf 16 = .ok (.if_icmp .ge 114, 3) ∧ decode cX12_coverOf 19 = .ok (.iload 4, 2) ∧ decode cX12_coverOf 21 = .ok (.iconst (-1), 1) ∧ decode cX12_coverOf 22 = .ok (.if_icmp .eq 16, 3) ∧ decode cX12_coverOf 25 = .ok (.iload 5, 2) ∧ decode cX12_coverOf 27 = .ok (.invokestatic 302, 3) ∧ decode cX12_coverOf 30 = .ok (.iload 4, 2) ∧ decode cX12_coverOf 32 = .ok (.invokestatic 302, 3) ∧ decode cX12_coverOf 35 = .ok (.if_icmp .ge 7, 3) := by decide +kernel
theorem e_X12_coverOf_2 : decode cX12_coverOf 38 = .ok (.iconst 1, 1) ∧ decode cX12_coverOf 39 = .ok (.goto 4, 3) ∧ decode cX12_coverOf 42 = .ok (.iconst 0, 1) ∧ decode cX12_coverOf 43 = .ok (.istore 6, 2) ∧ decode cX12_coverOf 45 = .ok (.iconst 0, 1) ∧ decode cX12_coverOf 46 = .ok (.istore 7, 2) ∧ decode cX12_coverOf 48 = .ok (.iload 7, 2) ∧ decode cX12_coverOf 50 = .ok (.iload_n 2, 1) ∧ decode cX12_coverOf 51 = .ok (.if_icmp .ge 64, 3) ∧ decode cX12_coverOf 54 = .ok (.iload 6, 2) := by decide +kernel
theorem e_X12_coverOf_3 : decode cX12_coverOf 56 = .ok (.ifCond .eq 50, 3) ∧ decode cX12_coverOf 59 = .ok (.aload_n 0, 1) ∧ decode cX12_coverOf 60 = .ok (.aload_n 0, 1) ∧ decode cX12_coverOf 61 = .ok (.getfield 27, 3) ∧ decode cX12_coverOf 64 = .ok (.bipush 60, 2) ∧ decode cX12_coverOf 66 = .ok (.iload_n 1, 1) ∧ decode cX12_coverOf 67 = .ok (.imul, 1) ∧ decode cX12_coverOf 68 = .ok (.iload 7, 2) ∧ decode cX12_coverOf 70 = .ok (.iadd, 1) ∧ decode cX12_coverOf 71 = .ok (.laload, 1) := by decide +kernel
theorem e_X12_coverOf_4 : decode cX12_coverOf 72 = .ok (.l2i, 1) ∧ decode cX12_coverOf 73 = .ok (.bipush 10, 2) ∧ decode cX12_coverOf 75 = .ok (.irem, 1) ∧ decode cX12_coverOf 76 = .ok (.aload_n 0, 1) ∧ decode cX12_coverOf 77 = .ok (.getfield 27, 3) ∧ decode cX12_coverOf 80 = .ok (.bipush 60, 2) ∧ decode cX12_coverOf 82 = .ok (.iload_n 1, 1) ∧ decode cX12_coverOf 83 = .ok (.imul, 1) ∧ decode cX12_coverOf 84 = .ok (.iload 7, 2) ∧ decode cX12_coverOf 86 = .ok (.iadd, 1) := by decide +kernel
theorem e_X12_coverOf_5 : decode cX12_coverOf 87 = .ok (.laload, 1) ∧ decode cX12_coverOf 88 = .ok (.l2i, 1) ∧ decode cX12_coverOf 89 = .ok (.bipush 10, 2) ∧ decode cX12_coverOf 91 = .ok (.idiv, 1) ∧ decode cX12_coverOf 92 = .ok (.iload_n 3, 1) ∧ decode cX12_coverOf 93 = .ok (.invokevirtual 305, 3) ∧ decode cX12_coverOf 96 = .ok (.iload 5, 2) ∧ decode cX12_coverOf 98 = .ok (.iand, 1) ∧ decode cX12_coverOf 99 = .ok (.ifCond .eq 7, 3) ∧ decode cX12_coverOf 102 = .ok (.iconst 1, 1) := by decide +kernel
theorem e_X12_coverOf_6 : decode cX12_coverOf 103 = .ok (.goto 4, 3) ∧ decode cX12_coverOf 106 = .ok (.iconst 0, 1) ∧ decode cX12_coverOf 107 = .ok (.istore 6, 2) ∧ decode cX12_coverOf 109 = .ok (.iinc 7 1, 3) ∧ decode cX12_coverOf 112 = .ok (.goto (-64), 3) ∧ decode cX12_coverOf 115 = .ok (.iload 6, 2) ∧ decode cX12_coverOf 117 = .ok (.ifCond .eq 7, 3) ∧ decode cX12_coverOf 120 = .ok (.iload 5, 2) ∧ decode cX12_coverOf 122 = .ok (.istore 4, 2) ∧ decode cX12_coverOf 124 = .ok (.iinc 5 1, 3) := by decide +kernel
theorem e_X12_coverOf_7 : decode cX12_coverOf 127 = .ok (.goto (-121), 3) ∧ decode cX12_coverOf 130 = .ok (.iload 4, 2) ∧ decode cX12_coverOf 132 = .ok (.ireturn, 1) := by decide +kernel
abbrev E_X12_coverOf_6 (G : Kg) (l1 l2 l3 l4 l5 : Int) (σ : Kmem) (Q : Int → Kmem → Prop) : Prop := Ex G WM M_X12_coverOf 6 0 0 6 [(0, vA G 0), (1, vI l1), (2, vI l2), (3, vI l3), (4, vI l4), (5, vI l5)] [] σ Q
abbrev E_X12_coverOf_48 (G : Kg) (l1 l2 l3 l4 l5 l6 l7 : Int) (σ : Kmem) (Q : Int → Kmem → Prop) : Prop := Ex G WM M_X12_coverOf 6 0 0 48 [(0, vA G 0), (1, vI l1), (2, vI l2), (3, vI l3), (4, vI l4), (5, vI l5), (6, vI l6), (7, vI l7)] [] σ Q
theorem S_X12_coverOf {G : Kg} {σ : Kmem} {Q : Int → Kmem → Prop} {l1 l2 l3 : Int}  (h : E_X12_coverOf_6 G l1 l2 l3 (-1) 0 σ Q) : Run G WM M_X12_coverOf 6 0 0 [vA G 0, vI l1, vI l2, vI l3] σ Q := by
  refine Run.of (by decide +kernel) (by show (4 : Nat) ≤ 8; decide) ?_
  show Ex G WM M_X12_coverOf 6 0 0 0 [(0, vA G 0), (1, vI l1), (2, vI l2), (3, vI l3)] [] σ Q
  refine R_iconst e_X12_coverOf_0.1 ?_
  refine R_istore (ls2 := [(4, vI (-1)), (0, vA G 0), (1, vI l1), (2, vI l2), (3, vI l3)]) e_X12_coverOf_0.2.1 (by decide) rfl ?_
  refine R_iconst e_X12_coverOf_0.2.2.1 ?_
  refine R_istore (ls2 := [(5, vI 0), (4, vI (-1)), (0, vA G 0), (1, vI l1), (2, vI l2), (3, vI l3)]) e_X12_coverOf_0.2.2.2.1 (by decide) rfl ?_
  refine R_ls (ls2 := [(0, vA G 0), (1, vI l1), (2, vI l2), (3, vI l3), (4, vI (-1)), (5, vI 0)]) [2, 3, 4, 5, 1, 0] rfl ?_
  exact h
theorem S_X12_coverOf_6 {G : Kg} {σ : Kmem} {Q : Int → Kmem → Prop} {l1 l2 l3 l4 l5 : Int}  (h : (rI l5) ∧ (rI (kshl 1 (σ 1 2))) ∧ ((kshl 1 (σ 1 2) ≤ l5 → Q l4 σ) ∧ (l5 < kshl 1 (σ 1 2) → (rI l4) ∧ ((l4 = -1 → E_X12_coverOf_48 G l1 l2 l3 l4 l5 1 0 σ Q) ∧ (l4 ≠ -1 → ((0 : Int) ≤ l5 ∧ (l5 : Int) < 64) ∧ ((0 : Int) ≤ l4 ∧ (l4 : Int) < 64) ∧ (rI (kbits (l5).toNat : Int)) ∧ (rI (kbits (l4).toNat : Int)) ∧ (((kbits (l4).toNat : Int) ≤ (kbits (l5).toNat : Int) → E_X12_coverOf_48 G l1 l2 l3 l4 l5 0 0 σ Q) ∧ ((kbits (l5).toNat : Int) < (kbits (l4).toNat : Int) → E_X12_coverOf_48 G l1 l2 l3 l4 l5 1 0 σ Q))))))) : E_X12_coverOf_6 G l1 l2 l3 l4 l5 σ Q := by
  refine R_iload e_X12_coverOf_0.2.2.2.2.1 5 rfl ?_
  refine R_iconst e_X12_coverOf_0.2.2.2.2.2.1 ?_
  refine R_aload_n e_X12_coverOf_0.2.2.2.2.2.2.1 0 rfl ?_
  refine R_getA 12 0 1 e_X12_coverOf_0.2.2.2.2.2.2.2.1 f_X12_7 km_0 (fun _ _ => rfl) rm_0_0 (by decide) ?_
  refine R_iconst e_X12_coverOf_0.2.2.2.2.2.2.2.2.1 ?_
  refine R_iald 3598 e_X12_coverOf_0.2.2.2.2.2.2.2.2.2 kma_1 (by decide) ?_
  refine R_ishl e_X12_coverOf_1.1 ?_
  obtain ⟨q1, h⟩ := h
  obtain ⟨q2, h⟩ := h
  refine R_icmp_ge 130 e_X12_coverOf_1.2.1 (by decide) q1 q2 (fun q => ?_) (fun q => ?_)
  · replace h := h.1 q
    refine R_iload e_X12_coverOf_7.2.1 4 rfl ?_
    exact R_ireturn e_X12_coverOf_7.2.2 rfl h
  · replace h := h.2 q
    refine R_iload e_X12_coverOf_1.2.2.1 4 rfl ?_
    refine R_iconst e_X12_coverOf_1.2.2.2.1 ?_
    obtain ⟨q3, h⟩ := h
    refine R_icmp_eq 38 e_X12_coverOf_1.2.2.2.2.1 (by decide) q3 (by decide) (fun q => ?_) (fun q => ?_)
    · replace h := h.1 q
      refine R_iconst e_X12_coverOf_2.1 ?_
      refine R_goto 43 e_X12_coverOf_2.2.1 (by decide) ?_
      refine R_istore (ls2 := [(6, vI 1), (0, vA G 0), (1, vI l1), (2, vI l2), (3, vI l3), (4, vI l4), (5, vI l5)]) e_X12_coverOf_2.2.2.2.1 (by decide) rfl ?_
      refine R_iconst e_X12_coverOf_2.2.2.2.2.1 ?_
      refine R_istore (ls2 := [(7, vI 0), (6, vI 1), (0, vA G 0), (1, vI l1), (2, vI l2), (3, vI l3), (4, vI l4), (5, vI l5)]) e_X12_coverOf_2.2.2.2.2.2.1 (by decide) rfl ?_
      refine R_ls (ls2 := [(0, vA G 0), (1, vI l1), (2, vI l2), (3, vI l3), (4, vI l4), (5, vI l5), (6, vI 1), (7, vI 0)]) [2, 3, 4, 5, 6, 7, 1, 0] rfl ?_
      exact h
    · replace h := h.2 q
      refine R_iload e_X12_coverOf_1.2.2.2.2.2.1 5 rfl ?_
      obtain ⟨q6, h⟩ := h
      refine R_callS (mc := 0) (ms := 0) (mc' := 0) (ms' := 0) (M' := M_X12_bits) (d' := 0) (as := [vI l5]) (st := []) 1 e_X12_coverOf_1.2.2.2.2.2.2.1 (kCSof m_X12_bits l_X12_302) (by decide) (by decide) rfl rfl (by show (0 : Nat) ≤ 8; decide) ?_
      refine Run.mono (P_X12_bits q6) (fun r s e => ?_)
      obtain ⟨e1, e2⟩ := e
      refine R_eqs (st2 := [vI (kbits (l5).toNat : Int)]) (σ2 := σ) (by rw [e1]; rfl) e2 ?_
      refine R_iload e_X12_coverOf_1.2.2.2.2.2.2.2.1 4 rfl ?_
      obtain ⟨q9, h⟩ := h
      refine R_callS (mc := 0) (ms := 0) (mc' := 0) (ms' := 0) (M' := M_X12_bits) (d' := 0) (as := [vI l4]) (st := [vI (kbits (l5).toNat : Int)]) 1 e_X12_coverOf_1.2.2.2.2.2.2.2.2.1 (kCSof m_X12_bits l_X12_302) (by decide) (by decide) rfl rfl (by show (1 : Nat) ≤ 8; decide) ?_
      refine Run.mono (P_X12_bits q9) (fun r s e => ?_)
      obtain ⟨e1, e2⟩ := e
      refine R_eqs (st2 := [vI (kbits (l4).toNat : Int), vI (kbits (l5).toNat : Int)]) (σ2 := σ) (by rw [e1]; rfl) e2 ?_
      obtain ⟨q10, h⟩ := h
      obtain ⟨q11, h⟩ := h
      refine R_icmp_ge 42 e_X12_coverOf_1.2.2.2.2.2.2.2.2.2 (by decide) q10 q11 (fun q => ?_) (fun q => ?_)
      · replace h := h.1 q
        refine R_iconst e_X12_coverOf_2.2.2.1 ?_
        refine R_istore (ls2 := [(6, vI 0), (0, vA G 0), (1, vI l1), (2, vI l2), (3, vI l3), (4, vI l4), (5, vI l5)]) e_X12_coverOf_2.2.2.2.1 (by decide) rfl ?_
        refine R_iconst e_X12_coverOf_2.2.2.2.2.1 ?_
        refine R_istore (ls2 := [(7, vI 0), (6, vI 0), (0, vA G 0), (1, vI l1), (2, vI l2), (3, vI l3), (4, vI l4), (5, vI l5)]) e_X12_coverOf_2.2.2.2.2.2.1 (by decide) rfl ?_
        refine R_ls (ls2 := [(0, vA G 0), (1, vI l1), (2, vI l2), (3, vI l3), (4, vI l4), (5, vI l5), (6, vI 0), (7, vI 0)]) [2, 3, 4, 5, 6, 7, 1, 0] rfl ?_
        exact h
      · replace h := h.2 q
        refine R_iconst e_X12_coverOf_2.1 ?_
        refine R_goto 43 e_X12_coverOf_2.2.1 (by decide) ?_
        refine R_istore (ls2 := [(6, vI 1), (0, vA G 0), (1, vI l1), (2, vI l2), (3, vI l3), (4, vI l4), (5, vI l5)]) e_X12_coverOf_2.2.2.2.1 (by decide) rfl ?_
        refine R_iconst e_X12_coverOf_2.2.2.2.2.1 ?_
        refine R_istore (ls2 := [(7, vI 0), (6, vI 1), (0, vA G 0), (1, vI l1), (2, vI l2), (3, vI l3), (4, vI l4), (5, vI l5)]) e_X12_coverOf_2.2.2.2.2.2.1 (by decide) rfl ?_
        refine R_ls (ls2 := [(0, vA G 0), (1, vI l1), (2, vI l2), (3, vI l3), (4, vI l4), (5, vI l5), (6, vI 1), (7, vI 0)]) [2, 3, 4, 5, 6, 7, 1, 0] rfl ?_
        exact h
theorem S_X12_coverOf_48 {G : Kg} {σ : Kmem} {Q : Int → Kmem → Prop} {l1 l2 l3 l4 l5 l6 l7 : Int}  (h : (rI l7) ∧ (rI l2) ∧ ((l2 ≤ l7 → (rI l6) ∧ ((l6 = 0 → E_X12_coverOf_6 G l1 l2 l3 l4 (l5 + 1) σ Q) ∧ (l6 ≠ 0 → E_X12_coverOf_6 G l1 l2 l3 l5 (l5 + 1) σ Q))) ∧ (l7 < l2 → (rI l6) ∧ ((l6 = 0 → E_X12_coverOf_48 G l1 l2 l3 l4 l5 0 (l7 + 1) σ Q) ∧ (l6 ≠ 0 → (0 ≤ (60 * l1) + l7 ∧ (60 * l1) + l7 < 240) ∧ (0 ≤ σ 5 ((60 * l1) + l7) ∧ σ 5 ((60 * l1) + l7) ≤ 2147483647) ∧ (0 ≤ (60 * l1) + l7 ∧ (60 * l1) + l7 < 240) ∧ (0 ≤ σ 5 ((60 * l1) + l7) ∧ σ 5 ((60 * l1) + l7) ≤ 2147483647) ∧ (wf (σ 1) ∧ ((0 : Int) ≤ ((σ 5 ((60 * l1) + l7)) % 10) ∧ (((σ 5 ((60 * l1) + l7)) % 10) : Int) ≤ 100) ∧ ((0 : Int) ≤ ((σ 5 ((60 * l1) + l7)) / 10) ∧ (((σ 5 ((60 * l1) + l7)) / 10) : Int) ≤ 100) ∧ sHr (l3)) ∧ (rI (kand (sShs (σ 1) (((σ 5 ((60 * l1) + l7)) % 10)) (((σ 5 ((60 * l1) + l7)) / 10)) (l3) : Int) l5)) ∧ ((kand (sShs (σ 1) (((σ 5 ((60 * l1) + l7)) % 10)) (((σ 5 ((60 * l1) + l7)) / 10)) (l3) : Int) l5 = 0 → E_X12_coverOf_48 G l1 l2 l3 l4 l5 0 (l7 + 1) σ Q) ∧ (kand (sShs (σ 1) (((σ 5 ((60 * l1) + l7)) % 10)) (((σ 5 ((60 * l1) + l7)) / 10)) (l3) : Int) l5 ≠ 0 → E_X12_coverOf_48 G l1 l2 l3 l4 l5 1 (l7 + 1) σ Q))))))) : E_X12_coverOf_48 G l1 l2 l3 l4 l5 l6 l7 σ Q := by
  refine R_iload e_X12_coverOf_2.2.2.2.2.2.2.1 7 rfl ?_
  refine R_iload_n e_X12_coverOf_2.2.2.2.2.2.2.2.1 2 rfl ?_
  obtain ⟨q12, h⟩ := h
  obtain ⟨q13, h⟩ := h
  refine R_icmp_ge 115 e_X12_coverOf_2.2.2.2.2.2.2.2.2.1 (by decide) q12 q13 (fun q => ?_) (fun q => ?_)
  · replace h := h.1 q
    refine R_iload e_X12_coverOf_6.2.2.2.2.2.1 6 rfl ?_
    obtain ⟨q14, h⟩ := h
    refine R_if_eq 124 e_X12_coverOf_6.2.2.2.2.2.2.1 (by decide) q14  (fun q => ?_) (fun q => ?_)
    · replace h := h.1 q
      refine R_iinc (ls2 := [(5, vI (l5 + 1)), (0, vA G 0), (1, vI l1), (2, vI l2), (3, vI l3), (4, vI l4), (6, vI l6), (7, vI l7)]) e_X12_coverOf_6.2.2.2.2.2.2.2.2.2 5 rfl (by decide) rfl ?_
      refine R_goto 6 e_X12_coverOf_7.1 (by decide) ?_
      refine R_ls (ls2 := [(0, vA G 0), (1, vI l1), (2, vI l2), (3, vI l3), (4, vI l4), (5, vI (l5 + 1))]) [1, 2, 3, 4, 5, 0] rfl ?_
      exact h
    · replace h := h.2 q
      refine R_iload e_X12_coverOf_6.2.2.2.2.2.2.2.1 5 rfl ?_
      refine R_istore (ls2 := [(4, vI l5), (0, vA G 0), (1, vI l1), (2, vI l2), (3, vI l3), (5, vI l5), (6, vI l6), (7, vI l7)]) e_X12_coverOf_6.2.2.2.2.2.2.2.2.1 (by decide) rfl ?_
      refine R_iinc (ls2 := [(5, vI (l5 + 1)), (4, vI l5), (0, vA G 0), (1, vI l1), (2, vI l2), (3, vI l3), (6, vI l6), (7, vI l7)]) e_X12_coverOf_6.2.2.2.2.2.2.2.2.2 5 rfl (by decide) rfl ?_
      refine R_goto 6 e_X12_coverOf_7.1 (by decide) ?_
      refine R_ls (ls2 := [(0, vA G 0), (1, vI l1), (2, vI l2), (3, vI l3), (4, vI l5), (5, vI (l5 + 1))]) [2, 3, 4, 5, 1, 0] rfl ?_
      exact h
  · replace h := h.2 q
    refine R_iload e_X12_coverOf_2.2.2.2.2.2.2.2.2.2 6 rfl ?_
    obtain ⟨q15, h⟩ := h
    refine R_if_eq 106 e_X12_coverOf_3.1 (by decide) q15  (fun q => ?_) (fun q => ?_)
    · replace h := h.1 q
      refine R_iconst e_X12_coverOf_6.2.1 ?_
      refine R_istore (ls2 := [(6, vI 0), (0, vA G 0), (1, vI l1), (2, vI l2), (3, vI l3), (4, vI l4), (5, vI l5), (7, vI l7)]) e_X12_coverOf_6.2.2.1 (by decide) rfl ?_
      refine R_iinc (ls2 := [(7, vI (l7 + 1)), (6, vI 0), (0, vA G 0), (1, vI l1), (2, vI l2), (3, vI l3), (4, vI l4), (5, vI l5)]) e_X12_coverOf_6.2.2.2.1 7 rfl (by decide) rfl ?_
      refine R_goto 48 e_X12_coverOf_6.2.2.2.2.1 (by decide) ?_
      refine R_ls (ls2 := [(0, vA G 0), (1, vI l1), (2, vI l2), (3, vI l3), (4, vI l4), (5, vI l5), (6, vI 0), (7, vI (l7 + 1))]) [2, 3, 4, 5, 6, 7, 1, 0] rfl ?_
      exact h
    · replace h := h.2 q
      refine R_aload_n e_X12_coverOf_3.2.1 0 rfl ?_
      refine R_aload_n e_X12_coverOf_3.2.2.1 0 rfl ?_
      refine R_getA 12 7 5 e_X12_coverOf_3.2.2.2.1 f_X12_27 km_0 (fun _ _ => rfl) rm_0_7 (by decide) ?_
      refine R_bipush e_X12_coverOf_3.2.2.2.2.1 (by decide) ?_
      refine R_iload_n e_X12_coverOf_3.2.2.2.2.2.1 1 rfl ?_
      refine R_imul e_X12_coverOf_3.2.2.2.2.2.2.1 ?_
      refine R_iload e_X12_coverOf_3.2.2.2.2.2.2.2.1 7 rfl ?_
      refine R_iadd e_X12_coverOf_3.2.2.2.2.2.2.2.2.1 ?_
      obtain ⟨q16, h⟩ := h
      refine R_lald 240 e_X12_coverOf_3.2.2.2.2.2.2.2.2.2 kma_5 q16 ?_
      refine R_l2i e_X12_coverOf_4.1 ?_
      refine R_bipush e_X12_coverOf_4.2.1 (by decide) ?_
      obtain ⟨q17, h⟩ := h
      refine R_irem e_X12_coverOf_4.2.2.1 q17 (by decide) ?_
      refine R_aload_n e_X12_coverOf_4.2.2.2.1 0 rfl ?_
      refine R_getA 12 7 5 e_X12_coverOf_4.2.2.2.2.1 f_X12_27 km_0 (fun _ _ => rfl) rm_0_7 (by decide) ?_
      refine R_bipush e_X12_coverOf_4.2.2.2.2.2.1 (by decide) ?_
      refine R_iload_n e_X12_coverOf_4.2.2.2.2.2.2.1 1 rfl ?_
      refine R_imul e_X12_coverOf_4.2.2.2.2.2.2.2.1 ?_
      refine R_iload e_X12_coverOf_4.2.2.2.2.2.2.2.2.1 7 rfl ?_
      refine R_iadd e_X12_coverOf_4.2.2.2.2.2.2.2.2.2 ?_
      obtain ⟨q18, h⟩ := h
      refine R_lald 240 e_X12_coverOf_5.1 kma_5 q18 ?_
      refine R_l2i e_X12_coverOf_5.2.1 ?_
      refine R_bipush e_X12_coverOf_5.2.2.1 (by decide) ?_
      obtain ⟨q19, h⟩ := h
      refine R_idiv e_X12_coverOf_5.2.2.2.1 q19 (by decide) ?_
      refine R_iload_n e_X12_coverOf_5.2.2.2.2.1 3 rfl ?_
      obtain ⟨q22, h⟩ := h
      refine R_callV (mc := 0) (ms := 0) (mc' := 0) (ms' := 0) (M' := M_X12_shadersOf) (d' := 5) (as := [vI ((σ 5 ((60 * l1) + l7)) % 10), vI ((σ 5 ((60 * l1) + l7)) / 10), vI l3]) (st := []) 12 3 e_X12_coverOf_5.2.2.2.2.2.1 (kCVof m_X12_shadersOf l_X12_305) rfl (by decide) km_0 (by decide) (by decide) rfl rfl (by show (0 : Nat) ≤ 8; decide) ?_
      refine Run.mono (P_X12_shadersOf q22) (fun r s e => ?_)
      obtain ⟨e1, e2⟩ := e
      refine R_eqs (st2 := [vI (sShs (σ 1) (((σ 5 ((60 * l1) + l7)) % 10)) (((σ 5 ((60 * l1) + l7)) / 10)) (l3) : Int)]) (σ2 := σ) (by rw [e1]; rfl) e2 ?_
      refine R_iload e_X12_coverOf_5.2.2.2.2.2.2.1 5 rfl ?_
      refine R_iand e_X12_coverOf_5.2.2.2.2.2.2.2.1 ?_
      obtain ⟨q23, h⟩ := h
      refine R_if_eq 106 e_X12_coverOf_5.2.2.2.2.2.2.2.2.1 (by decide) q23  (fun q => ?_) (fun q => ?_)
      · replace h := h.1 q
        refine R_iconst e_X12_coverOf_6.2.1 ?_
        refine R_istore (ls2 := [(6, vI 0), (0, vA G 0), (1, vI l1), (2, vI l2), (3, vI l3), (4, vI l4), (5, vI l5), (7, vI l7)]) e_X12_coverOf_6.2.2.1 (by decide) rfl ?_
        refine R_iinc (ls2 := [(7, vI (l7 + 1)), (6, vI 0), (0, vA G 0), (1, vI l1), (2, vI l2), (3, vI l3), (4, vI l4), (5, vI l5)]) e_X12_coverOf_6.2.2.2.1 7 rfl (by decide) rfl ?_
        refine R_goto 48 e_X12_coverOf_6.2.2.2.2.1 (by decide) ?_
        refine R_ls (ls2 := [(0, vA G 0), (1, vI l1), (2, vI l2), (3, vI l3), (4, vI l4), (5, vI l5), (6, vI 0), (7, vI (l7 + 1))]) [2, 3, 4, 5, 6, 7, 1, 0] rfl ?_
        exact h
      · replace h := h.2 q
        refine R_iconst e_X12_coverOf_5.2.2.2.2.2.2.2.2.2 ?_
        refine R_goto 107 e_X12_coverOf_6.1 (by decide) ?_
        refine R_istore (ls2 := [(6, vI 1), (0, vA G 0), (1, vI l1), (2, vI l2), (3, vI l3), (4, vI l4), (5, vI l5), (7, vI l7)]) e_X12_coverOf_6.2.2.1 (by decide) rfl ?_
        refine R_iinc (ls2 := [(7, vI (l7 + 1)), (6, vI 1), (0, vA G 0), (1, vI l1), (2, vI l2), (3, vI l3), (4, vI l4), (5, vI l5)]) e_X12_coverOf_6.2.2.2.1 7 rfl (by decide) rfl ?_
        refine R_goto 48 e_X12_coverOf_6.2.2.2.2.1 (by decide) ?_
        refine R_ls (ls2 := [(0, vA G 0), (1, vI l1), (2, vI l2), (3, vI l3), (4, vI l4), (5, vI l5), (6, vI 1), (7, vI (l7 + 1))]) [2, 3, 4, 5, 6, 7, 1, 0] rfl ?_
        exact h
/-! KiteLandModel.stripsIn(I)I -/
theorem e_X12_stripsIn_0 : decode cX12_stripsIn 0 = .ok (.iconst 0, 1) ∧ decode cX12_stripsIn 1 = .ok (.istore_n 2, 1) ∧ decode cX12_stripsIn 2 = .ok (.iconst 0, 1) ∧ decode cX12_stripsIn 3 = .ok (.istore_n 3, 1) ∧ decode cX12_stripsIn 4 = .ok (.iload_n 3, 1) ∧ decode cX12_stripsIn 5 = .ok (.aload_n 0, 1) ∧ decode cX12_stripsIn 6 = .ok (.getfield 7, 3) ∧ decode cX12_stripsIn 9 = .ok (.iconst 2, 1) ∧ decode cX12_stripsIn 10 = .ok (.iaload, 1) ∧ decode cX12_stripsIn 11 = .ok (.if_icmp .ge 112, 3) := by decide +kernel
theorem e_X12_stripsIn_1 : decode cX12_stripsIn 14 = .ok (.iconst 1, 1) ∧ decode cX12_stripsIn 15 = .ok (.istore 4, 2) ∧ decode cX12_stripsIn 17 = .ok (.iconst 0, 1) ∧ decode cX12_stripsIn 18 = .ok (.istore 5, 2) ∧ decode cX12_stripsIn 20 = .ok (.iload 5, 2) ∧ decode cX12_stripsIn 22 = .ok (.iload_n 3, 1) ∧ decode cX12_stripsIn 23 = .ok (.if_icmp .ge 81, 3) ∧ decode cX12_stripsIn 26 = .ok (.iconst 1, 1) ∧ decode cX12_stripsIn 27 = .ok (.istore 6, 2) ∧ decode cX12_stripsIn 29 = .ok (.iconst 0, 1) := by decide +kernel
theorem e_X12_stripsIn_2 : decode cX12_stripsIn 30 = .ok (.istore 7, 2) ∧ decode cX12_stripsIn 32 = .ok (.iload 7, 2) ∧ decode cX12_stripsIn 34 = .ok (.aload_n 0, 1) ∧ decode cX12_stripsIn 35 = .ok (.getfield 7, 3) ∧ decode cX12_stripsIn 38 = .ok (.iconst 0, 1) ∧ decode cX12_stripsIn 39 = .ok (.iaload, 1) ∧ decode cX12_stripsIn 40 = .ok (.if_icmp .ge 41, 3) ∧ decode cX12_stripsIn 43 = .ok (.iload 6, 2) ∧ decode cX12_stripsIn 45 = .ok (.ifCond .eq 27, 3) ∧ decode cX12_stripsIn 48 = .ok (.aload_n 0, 1) := by decide +kernel
theorem e_X12_stripsIn_3 : decode cX12_stripsIn 49 = .ok (.iload_n 3, 1) ∧ decode cX12_stripsIn 50 = .ok (.iload 7, 2) ∧ decode cX12_stripsIn 52 = .ok (.iload_n 1, 1) ∧ decode cX12_stripsIn 53 = .ok (.invokevirtual 474, 3) ∧ decode cX12_stripsIn 56 = .ok (.aload_n 0, 1) ∧ decode cX12_stripsIn 57 = .ok (.iload 5, 2) ∧ decode cX12_stripsIn 59 = .ok (.iload 7, 2) ∧ decode cX12_stripsIn 61 = .ok (.iload_n 1, 1) ∧ decode cX12_stripsIn 62 = .ok (.invokevirtual 474, 3) ∧ decode cX12_stripsIn 65 = .ok (.if_icmp .ne 7, 3) := by decide +kernel
theorem e_X12_stripsIn_4 : decode cX12_stripsIn 68 = .ok (.iconst 1, 1) ∧ decode cX12_stripsIn 69 = .ok (.goto 4, 3) ∧ decode cX12_stripsIn 72 = .ok (.iconst 0, 1) ∧ decode cX12_stripsIn 73 = .ok (.istore 6, 2) ∧ decode cX12_stripsIn 75 = .ok (.iinc 7 1, 3) ∧ decode cX12_stripsIn 78 = .ok (.goto (-46), 3) ∧ decode cX12_stripsIn 81 = .ok (.iload 4, 2) ∧ decode cX12_stripsIn 83 = .ok (.ifCond .eq 12, 3) ∧ decode cX12_stripsIn 86 = .ok (.iload 6, 2) ∧ decode cX12_stripsIn 88 = .ok (.ifCond .ne 7, 3) := by decide +kernel
theorem e_X12_stripsIn_5 : decode cX12_stripsIn 91 = .ok (.iconst 1, 1) ∧ decode cX12_stripsIn 92 = .ok (.goto 4, 3) ∧ decode cX12_stripsIn 95 = .ok (.iconst 0, 1) ∧ decode cX12_stripsIn 96 = .ok (.istore 4, 2) ∧ decode cX12_stripsIn 98 = .ok (.iinc 5 1, 3) ∧ decode cX12_stripsIn 101 = .ok (.goto (-81), 3) ∧ decode cX12_stripsIn 104 = .ok (.iload_n 2, 1) ∧ decode cX12_stripsIn 105 = .ok (.iload 4, 2) ∧ decode cX12_stripsIn 107 = .ok (.ifCond .eq 7, 3) ∧ decode cX12_stripsIn 110 = .ok (.iconst 1, 1) := by decide +kernel
theorem e_X12_stripsIn_6 : decode cX12_stripsIn 111 = .ok (.goto 4, 3) ∧ decode cX12_stripsIn 114 = .ok (.iconst 0, 1) ∧ decode cX12_stripsIn 115 = .ok (.iadd, 1) ∧ decode cX12_stripsIn 116 = .ok (.istore_n 2, 1) ∧ decode cX12_stripsIn 117 = .ok (.iinc 3 1, 3) ∧ decode cX12_stripsIn 120 = .ok (.goto (-116), 3) ∧ decode cX12_stripsIn 123 = .ok (.iload_n 2, 1) ∧ decode cX12_stripsIn 124 = .ok (.ireturn, 1) := by decide +kernel
abbrev E_X12_stripsIn_4 (G : Kg) (l1 l2 l3 : Int) (σ : Kmem) (Q : Int → Kmem → Prop) : Prop := Ex G WM M_X12_stripsIn 6 0 0 4 [(0, vA G 0), (1, vI l1), (2, vI l2), (3, vI l3)] [] σ Q
abbrev E_X12_stripsIn_20 (G : Kg) (l1 l2 l3 l4 l5 : Int) (σ : Kmem) (Q : Int → Kmem → Prop) : Prop := Ex G WM M_X12_stripsIn 6 0 0 20 [(0, vA G 0), (1, vI l1), (2, vI l2), (3, vI l3), (4, vI l4), (5, vI l5)] [] σ Q
abbrev E_X12_stripsIn_32 (G : Kg) (l1 l2 l3 l4 l5 l6 l7 : Int) (σ : Kmem) (Q : Int → Kmem → Prop) : Prop := Ex G WM M_X12_stripsIn 6 0 0 32 [(0, vA G 0), (1, vI l1), (2, vI l2), (3, vI l3), (4, vI l4), (5, vI l5), (6, vI l6), (7, vI l7)] [] σ Q
theorem S_X12_stripsIn {G : Kg} {σ : Kmem} {Q : Int → Kmem → Prop} {l1 : Int}  (h : E_X12_stripsIn_4 G l1 0 0 σ Q) : Run G WM M_X12_stripsIn 6 0 0 [vA G 0, vI l1] σ Q := by
  refine Run.of (by decide +kernel) (by show (2 : Nat) ≤ 8; decide) ?_
  show Ex G WM M_X12_stripsIn 6 0 0 0 [(0, vA G 0), (1, vI l1)] [] σ Q
  refine R_iconst e_X12_stripsIn_0.1 ?_
  refine R_istore_n (ls2 := [(2, vI 0), (0, vA G 0), (1, vI l1)]) e_X12_stripsIn_0.2.1 (by decide) rfl ?_
  refine R_iconst e_X12_stripsIn_0.2.2.1 ?_
  refine R_istore_n (ls2 := [(3, vI 0), (2, vI 0), (0, vA G 0), (1, vI l1)]) e_X12_stripsIn_0.2.2.2.1 (by decide) rfl ?_
  refine R_ls (ls2 := [(0, vA G 0), (1, vI l1), (2, vI 0), (3, vI 0)]) [2, 3, 1, 0] rfl ?_
  exact h
theorem S_X12_stripsIn_4 {G : Kg} {σ : Kmem} {Q : Int → Kmem → Prop} {l1 l2 l3 : Int}  (h : (rI l3) ∧ (rI (σ 1 2)) ∧ ((σ 1 2 ≤ l3 → Q l2 σ) ∧ (l3 < σ 1 2 → E_X12_stripsIn_20 G l1 l2 l3 1 0 σ Q))) : E_X12_stripsIn_4 G l1 l2 l3 σ Q := by
  refine R_iload_n e_X12_stripsIn_0.2.2.2.2.1 3 rfl ?_
  refine R_aload_n e_X12_stripsIn_0.2.2.2.2.2.1 0 rfl ?_
  refine R_getA 12 0 1 e_X12_stripsIn_0.2.2.2.2.2.2.1 f_X12_7 km_0 (fun _ _ => rfl) rm_0_0 (by decide) ?_
  refine R_iconst e_X12_stripsIn_0.2.2.2.2.2.2.2.1 ?_
  refine R_iald 3598 e_X12_stripsIn_0.2.2.2.2.2.2.2.2.1 kma_1 (by decide) ?_
  obtain ⟨q1, h⟩ := h
  obtain ⟨q2, h⟩ := h
  refine R_icmp_ge 123 e_X12_stripsIn_0.2.2.2.2.2.2.2.2.2 (by decide) q1 q2 (fun q => ?_) (fun q => ?_)
  · replace h := h.1 q
    refine R_iload_n e_X12_stripsIn_6.2.2.2.2.2.2.1 2 rfl ?_
    exact R_ireturn e_X12_stripsIn_6.2.2.2.2.2.2.2 rfl h
  · replace h := h.2 q
    refine R_iconst e_X12_stripsIn_1.1 ?_
    refine R_istore (ls2 := [(4, vI 1), (0, vA G 0), (1, vI l1), (2, vI l2), (3, vI l3)]) e_X12_stripsIn_1.2.1 (by decide) rfl ?_
    refine R_iconst e_X12_stripsIn_1.2.2.1 ?_
    refine R_istore (ls2 := [(5, vI 0), (4, vI 1), (0, vA G 0), (1, vI l1), (2, vI l2), (3, vI l3)]) e_X12_stripsIn_1.2.2.2.1 (by decide) rfl ?_
    refine R_ls (ls2 := [(0, vA G 0), (1, vI l1), (2, vI l2), (3, vI l3), (4, vI 1), (5, vI 0)]) [2, 3, 4, 5, 1, 0] rfl ?_
    exact h
theorem S_X12_stripsIn_20 {G : Kg} {σ : Kmem} {Q : Int → Kmem → Prop} {l1 l2 l3 l4 l5 : Int}  (h : (rI l5) ∧ (rI l3) ∧ ((l3 ≤ l5 → (rI l4) ∧ ((l4 = 0 → E_X12_stripsIn_4 G l1 (l2 + 0) (l3 + 1) σ Q) ∧ (l4 ≠ 0 → E_X12_stripsIn_4 G l1 (l2 + 1) (l3 + 1) σ Q))) ∧ (l5 < l3 → E_X12_stripsIn_32 G l1 l2 l3 l4 l5 1 0 σ Q))) : E_X12_stripsIn_20 G l1 l2 l3 l4 l5 σ Q := by
  refine R_iload e_X12_stripsIn_1.2.2.2.2.1 5 rfl ?_
  refine R_iload_n e_X12_stripsIn_1.2.2.2.2.2.1 3 rfl ?_
  obtain ⟨q3, h⟩ := h
  obtain ⟨q4, h⟩ := h
  refine R_icmp_ge 104 e_X12_stripsIn_1.2.2.2.2.2.2.1 (by decide) q3 q4 (fun q => ?_) (fun q => ?_)
  · replace h := h.1 q
    refine R_iload_n e_X12_stripsIn_5.2.2.2.2.2.2.1 2 rfl ?_
    refine R_iload e_X12_stripsIn_5.2.2.2.2.2.2.2.1 4 rfl ?_
    obtain ⟨q5, h⟩ := h
    refine R_if_eq 114 e_X12_stripsIn_5.2.2.2.2.2.2.2.2.1 (by decide) q5  (fun q => ?_) (fun q => ?_)
    · replace h := h.1 q
      refine R_iconst e_X12_stripsIn_6.2.1 ?_
      refine R_iadd e_X12_stripsIn_6.2.2.1 ?_
      refine R_istore_n (ls2 := [(2, vI (l2 + 0)), (0, vA G 0), (1, vI l1), (3, vI l3), (4, vI l4), (5, vI l5)]) e_X12_stripsIn_6.2.2.2.1 (by decide) rfl ?_
      refine R_iinc (ls2 := [(3, vI (l3 + 1)), (2, vI (l2 + 0)), (0, vA G 0), (1, vI l1), (4, vI l4), (5, vI l5)]) e_X12_stripsIn_6.2.2.2.2.1 3 rfl (by decide) rfl ?_
      refine R_goto 4 e_X12_stripsIn_6.2.2.2.2.2.1 (by decide) ?_
      refine R_ls (ls2 := [(0, vA G 0), (1, vI l1), (2, vI (l2 + 0)), (3, vI (l3 + 1))]) [2, 3, 1, 0] rfl ?_
      exact h
    · replace h := h.2 q
      refine R_iconst e_X12_stripsIn_5.2.2.2.2.2.2.2.2.2 ?_
      refine R_goto 115 e_X12_stripsIn_6.1 (by decide) ?_
      refine R_iadd e_X12_stripsIn_6.2.2.1 ?_
      refine R_istore_n (ls2 := [(2, vI (l2 + 1)), (0, vA G 0), (1, vI l1), (3, vI l3), (4, vI l4), (5, vI l5)]) e_X12_stripsIn_6.2.2.2.1 (by decide) rfl ?_
      refine R_iinc (ls2 := [(3, vI (l3 + 1)), (2, vI (l2 + 1)), (0, vA G 0), (1, vI l1), (4, vI l4), (5, vI l5)]) e_X12_stripsIn_6.2.2.2.2.1 3 rfl (by decide) rfl ?_
      refine R_goto 4 e_X12_stripsIn_6.2.2.2.2.2.1 (by decide) ?_
      refine R_ls (ls2 := [(0, vA G 0), (1, vI l1), (2, vI (l2 + 1)), (3, vI (l3 + 1))]) [2, 3, 1, 0] rfl ?_
      exact h
  · replace h := h.2 q
    refine R_iconst e_X12_stripsIn_1.2.2.2.2.2.2.2.1 ?_
    refine R_istore (ls2 := [(6, vI 1), (0, vA G 0), (1, vI l1), (2, vI l2), (3, vI l3), (4, vI l4), (5, vI l5)]) e_X12_stripsIn_1.2.2.2.2.2.2.2.2.1 (by decide) rfl ?_
    refine R_iconst e_X12_stripsIn_1.2.2.2.2.2.2.2.2.2 ?_
    refine R_istore (ls2 := [(7, vI 0), (6, vI 1), (0, vA G 0), (1, vI l1), (2, vI l2), (3, vI l3), (4, vI l4), (5, vI l5)]) e_X12_stripsIn_2.1 (by decide) rfl ?_
    refine R_ls (ls2 := [(0, vA G 0), (1, vI l1), (2, vI l2), (3, vI l3), (4, vI l4), (5, vI l5), (6, vI 1), (7, vI 0)]) [2, 3, 4, 5, 6, 7, 1, 0] rfl ?_
    exact h
theorem S_X12_stripsIn_32 {G : Kg} {σ : Kmem} {Q : Int → Kmem → Prop} {l1 l2 l3 l4 l5 l6 l7 : Int}  (h : (rI l7) ∧ (rI (σ 1 0)) ∧ ((σ 1 0 ≤ l7 → (rI l4) ∧ ((l4 = 0 → E_X12_stripsIn_20 G l1 l2 l3 0 (l5 + 1) σ Q) ∧ (l4 ≠ 0 → (rI l6) ∧ ((l6 ≠ 0 → E_X12_stripsIn_20 G l1 l2 l3 0 (l5 + 1) σ Q) ∧ (l6 = 0 → E_X12_stripsIn_20 G l1 l2 l3 1 (l5 + 1) σ Q))))) ∧ (l7 < σ 1 0 → (rI l6) ∧ ((l6 = 0 → E_X12_stripsIn_32 G l1 l2 l3 l4 l5 0 (l7 + 1) σ Q) ∧ (l6 ≠ 0 → (wf (σ 1) ∧ sKt (σ 1) (l3) ∧ ((0 : Int) ≤ l7 ∧ (l7 : Int) ≤ 100) ∧ (0 : Int) ≤ l1 ∧ (l1 : Int) ≤ 100) ∧ (wf (σ 1) ∧ sKt (σ 1) (l5) ∧ ((0 : Int) ≤ l7 ∧ (l7 : Int) ≤ 100) ∧ (0 : Int) ≤ l1 ∧ (l1 : Int) ≤ 100) ∧ (rI (sStrip (σ 1) (l3) (l7) (l1))) ∧ (rI (sStrip (σ 1) (l5) (l7) (l1))) ∧ ((sStrip (σ 1) (l3) (l7) (l1) ≠ sStrip (σ 1) (l5) (l7) (l1) → E_X12_stripsIn_32 G l1 l2 l3 l4 l5 0 (l7 + 1) σ Q) ∧ (sStrip (σ 1) (l3) (l7) (l1) = sStrip (σ 1) (l5) (l7) (l1) → E_X12_stripsIn_32 G l1 l2 l3 l4 l5 1 (l7 + 1) σ Q))))))) : E_X12_stripsIn_32 G l1 l2 l3 l4 l5 l6 l7 σ Q := by
  refine R_iload e_X12_stripsIn_2.2.1 7 rfl ?_
  refine R_aload_n e_X12_stripsIn_2.2.2.1 0 rfl ?_
  refine R_getA 12 0 1 e_X12_stripsIn_2.2.2.2.1 f_X12_7 km_0 (fun _ _ => rfl) rm_0_0 (by decide) ?_
  refine R_iconst e_X12_stripsIn_2.2.2.2.2.1 ?_
  refine R_iald 3598 e_X12_stripsIn_2.2.2.2.2.2.1 kma_1 (by decide) ?_
  obtain ⟨q6, h⟩ := h
  obtain ⟨q7, h⟩ := h
  refine R_icmp_ge 81 e_X12_stripsIn_2.2.2.2.2.2.2.1 (by decide) q6 q7 (fun q => ?_) (fun q => ?_)
  · replace h := h.1 q
    refine R_iload e_X12_stripsIn_4.2.2.2.2.2.2.1 4 rfl ?_
    obtain ⟨q8, h⟩ := h
    refine R_if_eq 95 e_X12_stripsIn_4.2.2.2.2.2.2.2.1 (by decide) q8  (fun q => ?_) (fun q => ?_)
    · replace h := h.1 q
      refine R_iconst e_X12_stripsIn_5.2.2.1 ?_
      refine R_istore (ls2 := [(4, vI 0), (0, vA G 0), (1, vI l1), (2, vI l2), (3, vI l3), (5, vI l5), (6, vI l6), (7, vI l7)]) e_X12_stripsIn_5.2.2.2.1 (by decide) rfl ?_
      refine R_iinc (ls2 := [(5, vI (l5 + 1)), (4, vI 0), (0, vA G 0), (1, vI l1), (2, vI l2), (3, vI l3), (6, vI l6), (7, vI l7)]) e_X12_stripsIn_5.2.2.2.2.1 5 rfl (by decide) rfl ?_
      refine R_goto 20 e_X12_stripsIn_5.2.2.2.2.2.1 (by decide) ?_
      refine R_ls (ls2 := [(0, vA G 0), (1, vI l1), (2, vI l2), (3, vI l3), (4, vI 0), (5, vI (l5 + 1))]) [2, 3, 4, 5, 1, 0] rfl ?_
      exact h
    · replace h := h.2 q
      refine R_iload e_X12_stripsIn_4.2.2.2.2.2.2.2.2.1 6 rfl ?_
      obtain ⟨q9, h⟩ := h
      refine R_if_ne 95 e_X12_stripsIn_4.2.2.2.2.2.2.2.2.2 (by decide) q9  (fun q => ?_) (fun q => ?_)
      · replace h := h.1 q
        refine R_iconst e_X12_stripsIn_5.2.2.1 ?_
        refine R_istore (ls2 := [(4, vI 0), (0, vA G 0), (1, vI l1), (2, vI l2), (3, vI l3), (5, vI l5), (6, vI l6), (7, vI l7)]) e_X12_stripsIn_5.2.2.2.1 (by decide) rfl ?_
        refine R_iinc (ls2 := [(5, vI (l5 + 1)), (4, vI 0), (0, vA G 0), (1, vI l1), (2, vI l2), (3, vI l3), (6, vI l6), (7, vI l7)]) e_X12_stripsIn_5.2.2.2.2.1 5 rfl (by decide) rfl ?_
        refine R_goto 20 e_X12_stripsIn_5.2.2.2.2.2.1 (by decide) ?_
        refine R_ls (ls2 := [(0, vA G 0), (1, vI l1), (2, vI l2), (3, vI l3), (4, vI 0), (5, vI (l5 + 1))]) [2, 3, 4, 5, 1, 0] rfl ?_
        exact h
      · replace h := h.2 q
        refine R_iconst e_X12_stripsIn_5.1 ?_
        refine R_goto 96 e_X12_stripsIn_5.2.1 (by decide) ?_
        refine R_istore (ls2 := [(4, vI 1), (0, vA G 0), (1, vI l1), (2, vI l2), (3, vI l3), (5, vI l5), (6, vI l6), (7, vI l7)]) e_X12_stripsIn_5.2.2.2.1 (by decide) rfl ?_
        refine R_iinc (ls2 := [(5, vI (l5 + 1)), (4, vI 1), (0, vA G 0), (1, vI l1), (2, vI l2), (3, vI l3), (6, vI l6), (7, vI l7)]) e_X12_stripsIn_5.2.2.2.2.1 5 rfl (by decide) rfl ?_
        refine R_goto 20 e_X12_stripsIn_5.2.2.2.2.2.1 (by decide) ?_
        refine R_ls (ls2 := [(0, vA G 0), (1, vI l1), (2, vI l2), (3, vI l3), (4, vI 1), (5, vI (l5 + 1))]) [2, 3, 4, 5, 1, 0] rfl ?_
        exact h
  · replace h := h.2 q
    refine R_iload e_X12_stripsIn_2.2.2.2.2.2.2.2.1 6 rfl ?_
    obtain ⟨q10, h⟩ := h
    refine R_if_eq 72 e_X12_stripsIn_2.2.2.2.2.2.2.2.2.1 (by decide) q10  (fun q => ?_) (fun q => ?_)
    · replace h := h.1 q
      refine R_iconst e_X12_stripsIn_4.2.2.1 ?_
      refine R_istore (ls2 := [(6, vI 0), (0, vA G 0), (1, vI l1), (2, vI l2), (3, vI l3), (4, vI l4), (5, vI l5), (7, vI l7)]) e_X12_stripsIn_4.2.2.2.1 (by decide) rfl ?_
      refine R_iinc (ls2 := [(7, vI (l7 + 1)), (6, vI 0), (0, vA G 0), (1, vI l1), (2, vI l2), (3, vI l3), (4, vI l4), (5, vI l5)]) e_X12_stripsIn_4.2.2.2.2.1 7 rfl (by decide) rfl ?_
      refine R_goto 32 e_X12_stripsIn_4.2.2.2.2.2.1 (by decide) ?_
      refine R_ls (ls2 := [(0, vA G 0), (1, vI l1), (2, vI l2), (3, vI l3), (4, vI l4), (5, vI l5), (6, vI 0), (7, vI (l7 + 1))]) [2, 3, 4, 5, 6, 7, 1, 0] rfl ?_
      exact h
    · replace h := h.2 q
      refine R_aload_n e_X12_stripsIn_2.2.2.2.2.2.2.2.2.2 0 rfl ?_
      refine R_iload_n e_X12_stripsIn_3.1 3 rfl ?_
      refine R_iload e_X12_stripsIn_3.2.1 7 rfl ?_
      refine R_iload_n e_X12_stripsIn_3.2.2.1 1 rfl ?_
      obtain ⟨q13, h⟩ := h
      refine R_callV (mc := 0) (ms := 0) (mc' := 0) (ms' := 0) (M' := M_X12_stripAt) (d' := 5) (as := [vI l3, vI l7, vI l1]) (st := []) 12 3 e_X12_stripsIn_3.2.2.2.1 (kCVof m_X12_stripAt l_X12_474) rfl (by decide) km_0 (by decide) (by decide) rfl rfl (by show (0 : Nat) ≤ 8; decide) ?_
      refine Run.mono (P_X12_stripAt q13) (fun r s e => ?_)
      obtain ⟨e1, e2⟩ := e
      refine R_eqs (st2 := [vI (sStrip (σ 1) (l3) (l7) (l1))]) (σ2 := σ) (by rw [e1]; rfl) e2 ?_
      refine R_aload_n e_X12_stripsIn_3.2.2.2.2.1 0 rfl ?_
      refine R_iload e_X12_stripsIn_3.2.2.2.2.2.1 5 rfl ?_
      refine R_iload e_X12_stripsIn_3.2.2.2.2.2.2.1 7 rfl ?_
      refine R_iload_n e_X12_stripsIn_3.2.2.2.2.2.2.2.1 1 rfl ?_
      obtain ⟨q16, h⟩ := h
      refine R_callV (mc := 0) (ms := 0) (mc' := 0) (ms' := 0) (M' := M_X12_stripAt) (d' := 5) (as := [vI l5, vI l7, vI l1]) (st := [vI (sStrip (σ 1) (l3) (l7) (l1))]) 12 3 e_X12_stripsIn_3.2.2.2.2.2.2.2.2.1 (kCVof m_X12_stripAt l_X12_474) rfl (by decide) km_0 (by decide) (by decide) rfl rfl (by show (1 : Nat) ≤ 8; decide) ?_
      refine Run.mono (P_X12_stripAt q16) (fun r s e => ?_)
      obtain ⟨e1, e2⟩ := e
      refine R_eqs (st2 := [vI (sStrip (σ 1) (l5) (l7) (l1)), vI (sStrip (σ 1) (l3) (l7) (l1))]) (σ2 := σ) (by rw [e1]; rfl) e2 ?_
      obtain ⟨q17, h⟩ := h
      obtain ⟨q18, h⟩ := h
      refine R_icmp_ne 72 e_X12_stripsIn_3.2.2.2.2.2.2.2.2.2 (by decide) q17 q18 (fun q => ?_) (fun q => ?_)
      · replace h := h.1 q
        refine R_iconst e_X12_stripsIn_4.2.2.1 ?_
        refine R_istore (ls2 := [(6, vI 0), (0, vA G 0), (1, vI l1), (2, vI l2), (3, vI l3), (4, vI l4), (5, vI l5), (7, vI l7)]) e_X12_stripsIn_4.2.2.2.1 (by decide) rfl ?_
        refine R_iinc (ls2 := [(7, vI (l7 + 1)), (6, vI 0), (0, vA G 0), (1, vI l1), (2, vI l2), (3, vI l3), (4, vI l4), (5, vI l5)]) e_X12_stripsIn_4.2.2.2.2.1 7 rfl (by decide) rfl ?_
        refine R_goto 32 e_X12_stripsIn_4.2.2.2.2.2.1 (by decide) ?_
        refine R_ls (ls2 := [(0, vA G 0), (1, vI l1), (2, vI l2), (3, vI l3), (4, vI l4), (5, vI l5), (6, vI 0), (7, vI (l7 + 1))]) [2, 3, 4, 5, 6, 7, 1, 0] rfl ?_
        exact h
      · replace h := h.2 q
        refine R_iconst e_X12_stripsIn_4.1 ?_
        refine R_goto 73 e_X12_stripsIn_4.2.1 (by decide) ?_
        refine R_istore (ls2 := [(6, vI 1), (0, vA G 0), (1, vI l1), (2, vI l2), (3, vI l3), (4, vI l4), (5, vI l5), (7, vI l7)]) e_X12_stripsIn_4.2.2.2.1 (by decide) rfl ?_
        refine R_iinc (ls2 := [(7, vI (l7 + 1)), (6, vI 1), (0, vA G 0), (1, vI l1), (2, vI l2), (3, vI l3), (4, vI l4), (5, vI l5)]) e_X12_stripsIn_4.2.2.2.2.1 7 rfl (by decide) rfl ?_
        refine R_goto 32 e_X12_stripsIn_4.2.2.2.2.2.1 (by decide) ?_
        refine R_ls (ls2 := [(0, vA G 0), (1, vI l1), (2, vI l2), (3, vI l3), (4, vI l4), (5, vI l5), (6, vI 1), (7, vI (l7 + 1))]) [2, 3, 4, 5, 6, 7, 1, 0] rfl ?_
        exact h
/-! KiteLandModel.isFor(III)Z -/
theorem e_X12_isFor_0 : decode cX12_isFor 0 = .ok (.aload_n 0, 1) ∧ decode cX12_isFor 1 = .ok (.iload_n 2, 1) ∧ decode cX12_isFor 2 = .ok (.bipush 10, 2) ∧ decode cX12_isFor 4 = .ok (.irem, 1) ∧ decode cX12_isFor 5 = .ok (.iload_n 2, 1) ∧ decode cX12_isFor 6 = .ok (.bipush 10, 2) ∧ decode cX12_isFor 8 = .ok (.idiv, 1) ∧ decode cX12_isFor 9 = .ok (.invokevirtual 355, 3) ∧ decode cX12_isFor 12 = .ok (.ifCond .eq 54, 3) ∧ decode cX12_isFor 15 = .ok (.aload_n 0, 1) := by decide +kernel
theorem e_X12_isFor_1 : decode cX12_isFor 16 = .ok (.iload_n 2, 1) ∧ decode cX12_isFor 17 = .ok (.bipush 10, 2) ∧ decode cX12_isFor 19 = .ok (.irem, 1) ∧ decode cX12_isFor 20 = .ok (.iload_n 2, 1) ∧ decode cX12_isFor 21 = .ok (.bipush 10, 2) ∧ decode cX12_isFor 23 = .ok (.idiv, 1) ∧ decode cX12_isFor 24 = .ok (.aload_n 0, 1) ∧ decode cX12_isFor 25 = .ok (.invokevirtual 325, 3) ∧ decode cX12_isFor 28 = .ok (.invokevirtual 312, 3) ∧ decode cX12_isFor 31 = .ok (.aload_n 0, 1) := by decide +kernel
theorem e_X12_isFor_2 : decode cX12_isFor 32 = .ok (.getfield 7, 3) ∧ decode cX12_isFor 35 = .ok (.iload_n 1, 1) ∧ decode cX12_isFor 36 = .ok (.invokestatic 352, 3) ∧ decode cX12_isFor 39 = .ok (.iconst 2, 1) ∧ decode cX12_isFor 40 = .ok (.iadd, 1) ∧ decode cX12_isFor 41 = .ok (.iaload, 1) ∧ decode cX12_isFor 42 = .ok (.if_icmp .ne 24, 3) ∧ decode cX12_isFor 45 = .ok (.aload_n 0, 1) ∧ decode cX12_isFor 46 = .ok (.iload_n 1, 1) ∧ decode cX12_isFor 47 = .ok (.iload_n 2, 1) := by decide +kernel
theorem e_X12_isFor_3 : decode cX12_isFor 48 = .ok (.bipush 10, 2) ∧ decode cX12_isFor 50 = .ok (.irem, 1) ∧ decode cX12_isFor 51 = .ok (.iload_n 2, 1) ∧ decode cX12_isFor 52 = .ok (.bipush 10, 2) ∧ decode cX12_isFor 54 = .ok (.idiv, 1) ∧ decode cX12_isFor 55 = .ok (.invokevirtual 378, 3) ∧ decode cX12_isFor 58 = .ok (.iload_n 3, 1) ∧ decode cX12_isFor 59 = .ok (.if_icmp .gt 7, 3) ∧ decode cX12_isFor 62 = .ok (.iconst 1, 1) ∧ decode cX12_isFor 63 = .ok (.goto 4, 3) := by decide +kernel
theorem e_X12_isFor_4 : decode cX12_isFor 66 = .ok (.iconst 0, 1) ∧ decode cX12_isFor 67 = .ok (.ireturn, 1) := by decide +kernel
theorem S_X12_isFor {G : Kg} {σ : Kmem} {Q : Int → Kmem → Prop} {l1 l2 l3 : Int}  (h : (0 ≤ l2 ∧ l2 ≤ 2147483647) ∧ (0 ≤ l2 ∧ l2 ≤ 2147483647) ∧ ((rI ((l2 % 10)) ∧ rI ((l2 / 10))) ∧ wf (σ 1)) ∧ ((¬ (sFld (σ 1) ((l2 % 10)) ((l2 / 10))) → Q 0 σ) ∧ ((sFld (σ 1) ((l2 % 10)) ((l2 / 10))) → (0 ≤ l2 ∧ l2 ≤ 2147483647) ∧ (0 ≤ l2 ∧ l2 ≤ 2147483647) ∧ (0 ≤ σ 1 7 ∧ σ 1 7 ≤ 2147483647) ∧ (wf (σ 1) ∧ ((0 : Int) ≤ (l2 % 10) ∧ ((l2 % 10) : Int) ≤ 100) ∧ ((0 : Int) ≤ (l2 / 10) ∧ ((l2 / 10) : Int) ≤ 100) ∧ sHr (((σ 1 7) % 12))) ∧ (0 ≤ (120 + (5 * l1)) + 2 ∧ (120 + (5 * l1)) + 2 < 3598) ∧ (rI (sOwn (σ 1) ((l2 % 10)) ((l2 / 10)) (((σ 1 7) % 12)))) ∧ (rI (σ 1 ((120 + (5 * l1)) + 2))) ∧ ((sOwn (σ 1) ((l2 % 10)) ((l2 / 10)) (((σ 1 7) % 12)) ≠ σ 1 ((120 + (5 * l1)) + 2) → Q 0 σ) ∧ (sOwn (σ 1) ((l2 % 10)) ((l2 / 10)) (((σ 1 7) % 12)) = σ 1 ((120 + (5 * l1)) + 2) → (0 ≤ l2 ∧ l2 ≤ 2147483647) ∧ (0 ≤ l2 ∧ l2 ≤ 2147483647) ∧ (wf (σ 1) ∧ ((0 : Int) ≤ l1 ∧ (l1 : Int) < (σ 1) 4) ∧ ((0 : Int) ≤ (l2 % 10) ∧ ((l2 % 10) : Int) ≤ 100) ∧ (0 : Int) ≤ (l2 / 10) ∧ ((l2 / 10) : Int) ≤ 100) ∧ (rI (kabs ((σ 1) (120 + 5 * (l1)) - (l2 % 10)) + kabs ((σ 1) (120 + 5 * (l1) + 1) - (l2 / 10)))) ∧ (rI l3) ∧ ((l3 < kabs ((σ 1) (120 + 5 * (l1)) - (l2 % 10)) + kabs ((σ 1) (120 + 5 * (l1) + 1) - (l2 / 10)) → Q 0 σ) ∧ (kabs ((σ 1) (120 + 5 * (l1)) - (l2 % 10)) + kabs ((σ 1) (120 + 5 * (l1) + 1) - (l2 / 10)) ≤ l3 → Q 1 σ))))))) : Run G WM M_X12_isFor 7 0 0 [vA G 0, vI l1, vI l2, vI l3] σ Q := by
  refine Run.of (by decide +kernel) (by show (4 : Nat) ≤ 4; decide) ?_
  show Ex G WM M_X12_isFor 7 0 0 0 [(0, vA G 0), (1, vI l1), (2, vI l2), (3, vI l3)] [] σ Q
  refine R_aload_n e_X12_isFor_0.1 0 rfl ?_
  refine R_iload_n e_X12_isFor_0.2.1 2 rfl ?_
  refine R_bipush e_X12_isFor_0.2.2.1 (by decide) ?_
  obtain ⟨q1, h⟩ := h
  refine R_irem e_X12_isFor_0.2.2.2.1 q1 (by decide) ?_
  refine R_iload_n e_X12_isFor_0.2.2.2.2.1 2 rfl ?_
  refine R_bipush e_X12_isFor_0.2.2.2.2.2.1 (by decide) ?_
  obtain ⟨q2, h⟩ := h
  refine R_idiv e_X12_isFor_0.2.2.2.2.2.2.1 q2 (by decide) ?_
  obtain ⟨q5, h⟩ := h
  refine R_callV (mc := 0) (ms := 0) (mc' := 0) (ms' := 0) (M' := M_X12_isField) (d' := 0) (as := [vI (l2 % 10), vI (l2 / 10)]) (st := []) 12 2 e_X12_isFor_0.2.2.2.2.2.2.2.1 (kCVof m_X12_isField l_X12_355) rfl (by decide) km_0 (by decide) (by decide) rfl rfl (by show (0 : Nat) ≤ 8; decide) ?_
  refine Run.mono (P_X12_isField q5) (fun r s e => ?_)
  obtain ⟨e1, e2⟩ := e
  refine R_eqs (st2 := [vI (kb (sFld (σ 1) ((l2 % 10)) ((l2 / 10))))]) (σ2 := σ) (by rw [e1]; rfl) e2 ?_
  refine R_if_eq 66 e_X12_isFor_0.2.2.2.2.2.2.2.2.1 (by decide) (kb_r _) (fun q => ?_) (fun q => ?_)
  · replace h := h.1 (kb_f q)
    refine R_iconst e_X12_isFor_4.1 ?_
    exact R_zreturn e_X12_isFor_4.2 rfl (Or.inl rfl) h
  · replace h := h.2 (kb_t q)
    refine R_aload_n e_X12_isFor_0.2.2.2.2.2.2.2.2.2 0 rfl ?_
    refine R_iload_n e_X12_isFor_1.1 2 rfl ?_
    refine R_bipush e_X12_isFor_1.2.1 (by decide) ?_
    obtain ⟨q6, h⟩ := h
    refine R_irem e_X12_isFor_1.2.2.1 q6 (by decide) ?_
    refine R_iload_n e_X12_isFor_1.2.2.2.1 2 rfl ?_
    refine R_bipush e_X12_isFor_1.2.2.2.2.1 (by decide) ?_
    obtain ⟨q7, h⟩ := h
    refine R_idiv e_X12_isFor_1.2.2.2.2.2.1 q7 (by decide) ?_
    refine R_aload_n e_X12_isFor_1.2.2.2.2.2.2.1 0 rfl ?_
    refine R_callV (mc := 0) (ms := 0) (mc' := 0) (ms' := 0) (M' := M_X12_now) (d' := 0) (as := []) (st := [vI (l2 / 10), vI (l2 % 10), vA G 0]) 12 0 e_X12_isFor_1.2.2.2.2.2.2.2.1 (kCVof m_X12_now l_X12_325) rfl (by decide) km_0 (by decide) (by decide) rfl rfl (by show (3 : Nat) ≤ 8; decide) ?_
    obtain ⟨q10, h⟩ := h
    refine S_X12_now ⟨q10, ?_⟩
    refine R_eqs (st2 := [vI ((σ 1 7) % 12), vI (l2 / 10), vI (l2 % 10), vA G 0]) (σ2 := σ) rfl rfl ?_
    obtain ⟨q13, h⟩ := h
    refine R_callV (mc := 0) (ms := 0) (mc' := 0) (ms' := 0) (M' := M_X12_ownerOf) (d' := 6) (as := [vI (l2 % 10), vI (l2 / 10), vI ((σ 1 7) % 12)]) (st := []) 12 3 e_X12_isFor_1.2.2.2.2.2.2.2.2.1 (kCVof m_X12_ownerOf l_X12_312) rfl (by decide) km_0 (by decide) (by decide) rfl rfl (by show (0 : Nat) ≤ 8; decide) ?_
    refine Run.mono (P_X12_ownerOf q13) (fun r s e => ?_)
    obtain ⟨e1, e2⟩ := e
    refine R_eqs (st2 := [vI (sOwn (σ 1) ((l2 % 10)) ((l2 / 10)) (((σ 1 7) % 12)))]) (σ2 := σ) (by rw [e1]; rfl) e2 ?_
    refine R_aload_n e_X12_isFor_1.2.2.2.2.2.2.2.2.2 0 rfl ?_
    refine R_getA 12 0 1 e_X12_isFor_2.1 f_X12_7 km_0 (fun _ _ => rfl) rm_0_0 (by decide) ?_
    refine R_iload_n e_X12_isFor_2.2.1 1 rfl ?_
    refine R_callS (mc := 0) (ms := 0) (mc' := 0) (ms' := 0) (M' := M_X12_tenantRow) (d' := 0) (as := [vI l1]) (st := [vA G 1, vI (sOwn (σ 1) ((l2 % 10)) ((l2 / 10)) (((σ 1 7) % 12)))]) 1 e_X12_isFor_2.2.2.1 (kCSof m_X12_tenantRow l_X12_352) (by decide) (by decide) rfl rfl (by show (2 : Nat) ≤ 8; decide) ?_
    refine S_X12_tenantRow ?_
    refine R_eqs (st2 := [vI (120 + (5 * l1)), vA G 1, vI (sOwn (σ 1) ((l2 % 10)) ((l2 / 10)) (((σ 1 7) % 12)))]) (σ2 := σ) rfl rfl ?_
    refine R_iconst e_X12_isFor_2.2.2.2.1 ?_
    refine R_iadd e_X12_isFor_2.2.2.2.2.1 ?_
    obtain ⟨q16, h⟩ := h
    refine R_iald 3598 e_X12_isFor_2.2.2.2.2.2.1 kma_1 q16 ?_
    obtain ⟨q17, h⟩ := h
    obtain ⟨q18, h⟩ := h
    refine R_icmp_ne 66 e_X12_isFor_2.2.2.2.2.2.2.1 (by decide) q17 q18 (fun q => ?_) (fun q => ?_)
    · replace h := h.1 q
      refine R_iconst e_X12_isFor_4.1 ?_
      exact R_zreturn e_X12_isFor_4.2 rfl (Or.inl rfl) h
    · replace h := h.2 q
      refine R_aload_n e_X12_isFor_2.2.2.2.2.2.2.2.1 0 rfl ?_
      refine R_iload_n e_X12_isFor_2.2.2.2.2.2.2.2.2.1 1 rfl ?_
      refine R_iload_n e_X12_isFor_2.2.2.2.2.2.2.2.2.2 2 rfl ?_
      refine R_bipush e_X12_isFor_3.1 (by decide) ?_
      obtain ⟨q19, h⟩ := h
      refine R_irem e_X12_isFor_3.2.1 q19 (by decide) ?_
      refine R_iload_n e_X12_isFor_3.2.2.1 2 rfl ?_
      refine R_bipush e_X12_isFor_3.2.2.2.1 (by decide) ?_
      obtain ⟨q20, h⟩ := h
      refine R_idiv e_X12_isFor_3.2.2.2.2.1 q20 (by decide) ?_
      obtain ⟨q23, h⟩ := h
      refine R_callV (mc := 0) (ms := 0) (mc' := 0) (ms' := 0) (M' := M_X12_stepsTo) (d' := 1) (as := [vI l1, vI (l2 % 10), vI (l2 / 10)]) (st := []) 12 3 e_X12_isFor_3.2.2.2.2.2.1 (kCVof m_X12_stepsTo l_X12_378) rfl (by decide) km_0 (by decide) (by decide) rfl rfl (by show (0 : Nat) ≤ 8; decide) ?_
      refine Run.mono (P_X12_stepsTo q23) (fun r s e => ?_)
      obtain ⟨e1, e2⟩ := e
      refine R_eqs (st2 := [vI (kabs ((σ 1) (120 + 5 * (l1)) - (l2 % 10)) + kabs ((σ 1) (120 + 5 * (l1) + 1) - (l2 / 10)))]) (σ2 := σ) (by rw [e1]; rfl) e2 ?_
      refine R_iload_n e_X12_isFor_3.2.2.2.2.2.2.1 3 rfl ?_
      obtain ⟨q24, h⟩ := h
      obtain ⟨q25, h⟩ := h
      refine R_icmp_gt 66 e_X12_isFor_3.2.2.2.2.2.2.2.1 (by decide) q24 q25 (fun q => ?_) (fun q => ?_)
      · replace h := h.1 q
        refine R_iconst e_X12_isFor_4.1 ?_
        exact R_zreturn e_X12_isFor_4.2 rfl (Or.inl rfl) h
      · replace h := h.2 q
        refine R_iconst e_X12_isFor_3.2.2.2.2.2.2.2.2.1 ?_
        refine R_goto 67 e_X12_isFor_3.2.2.2.2.2.2.2.2.2 (by decide) ?_
        exact R_zreturn e_X12_isFor_4.2 rfl (Or.inr rfl) h
/-! KiteLandModel.settles(II)Z -/
theorem e_X12_settles_0 : decode cX12_settles 0 = .ok (.iconst 0, 1) ∧ decode cX12_settles 1 = .ok (.istore_n 3, 1) ∧ decode cX12_settles 2 = .ok (.iload_n 3, 1) ∧ decode cX12_settles 3 = .ok (.bipush 70, 2) ∧ decode cX12_settles 5 = .ok (.if_icmp .ge 16, 3) ∧ decode cX12_settles 8 = .ok (.aload_n 0, 1) ∧ decode cX12_settles 9 = .ok (.getfield 56, 3) ∧ decode cX12_settles 12 = .ok (.iload_n 3, 1) ∧ decode cX12_settles 13 = .ok (.iconst (-1), 1) ∧ decode cX12_settles 14 = .ok (.iastore, 1) := by decide +kernel
theorem e_X12_settles_1 : decode cX12_settles 15 = .ok (.iinc 3 1, 3) ∧ decode cX12_settles 18 = .ok (.goto (-16), 3) ∧ decode cX12_settles 21 = .ok (.aload_n 0, 1) ∧ decode cX12_settles 22 = .ok (.getfield 59, 3) ∧ decode cX12_settles 25 = .ok (.iconst 0, 1) ∧ decode cX12_settles 26 = .ok (.iload_n 1, 1) ∧ decode cX12_settles 27 = .ok (.iastore, 1) ∧ decode cX12_settles 28 = .ok (.iconst 1, 1) ∧ decode cX12_settles 29 = .ok (.istore_n 3, 1) ∧ decode cX12_settles 30 = .ok (.iconst 0, 1) := by decide +kernel
theorem e_X12_settles_2 : decode cX12_settles 31 = .ok (.istore 4, 2) ∧ decode cX12_settles 33 = .ok (.iload 4, 2) ∧ decode cX12_settles 35 = .ok (.iload_n 3, 1) ∧ decode cX12_settles 36 = .ok (.if_icmp .ge 106, 3) ∧ decode cX12_settles 39 = .ok (.iconst 0, 1) ∧ decode cX12_settles 40 = .ok (.istore 5, 2) ∧ decode cX12_settles 42 = .ok (.iload 5, 2) ∧ decode cX12_settles 44 = .ok (.bipush 70, 2) ∧ decode cX12_settles 46 = .ok (.if_icmp .ge 90, 3) ∧ decode cX12_settles 49 = .ok (.aload_n 0, 1) := by decide +kernel
theorem e_X12_settles_3 : decode cX12_settles 50 = .ok (.getfield 56, 3) ∧ decode cX12_settles 53 = .ok (.iload 5, 2) ∧ decode cX12_settles 55 = .ok (.iaload, 1) ∧ decode cX12_settles 56 = .ok (.iconst (-1), 1) ∧ decode cX12_settles 57 = .ok (.if_icmp .ne 73, 3) ∧ decode cX12_settles 60 = .ok (.aload_n 0, 1) ∧ decode cX12_settles 61 = .ok (.aload_n 0, 1) ∧ decode cX12_settles 62 = .ok (.getfield 59, 3) ∧ decode cX12_settles 65 = .ok (.iload 4, 2) ∧ decode cX12_settles 67 = .ok (.iaload, 1) := by decide +kernel
theorem e_X12_settles_4 : decode cX12_settles 68 = .ok (.iload 5, 2) ∧ decode cX12_settles 70 = .ok (.iload_n 2, 1) ∧ decode cX12_settles 71 = .ok (.invokevirtual 459, 3) ∧ decode cX12_settles 74 = .ok (.ifCond .ne 6, 3) ∧ decode cX12_settles 77 = .ok (.goto 53, 3) ∧ decode cX12_settles 80 = .ok (.aload_n 0, 1) ∧ decode cX12_settles 81 = .ok (.getfield 56, 3) ∧ decode cX12_settles 84 = .ok (.iload 5, 2) ∧ decode cX12_settles 86 = .ok (.aload_n 0, 1) ∧ decode cX12_settles 87 = .ok (.getfield 59, 3) := by decide +kernel
theorem e_X12_settles_5 : decode cX12_settles 90 = .ok (.iload 4, 2) ∧ decode cX12_settles 92 = .ok (.iaload, 1) ∧ decode cX12_settles 93 = .ok (.iastore, 1) ∧ decode cX12_settles 94 = .ok (.aload_n 0, 1) ∧ decode cX12_settles 95 = .ok (.getfield 53, 3) ∧ decode cX12_settles 98 = .ok (.iload 5, 2) ∧ decode cX12_settles 100 = .ok (.iaload, 1) ∧ decode cX12_settles 101 = .ok (.iconst (-1), 1) ∧ decode cX12_settles 102 = .ok (.if_icmp .ne 12, 3) ∧ decode cX12_settles 105 = .ok (.aload_n 0, 1) := by decide +kernel
theorem e_X12_settles_6 : decode cX12_settles 106 = .ok (.iload 5, 2) ∧ decode cX12_settles 108 = .ok (.iload_n 1, 1) ∧ decode cX12_settles 109 = .ok (.invokevirtual 462, 3) ∧ decode cX12_settles 112 = .ok (.iconst 1, 1) ∧ decode cX12_settles 113 = .ok (.ireturn, 1) ∧ decode cX12_settles 114 = .ok (.aload_n 0, 1) ∧ decode cX12_settles 115 = .ok (.getfield 59, 3) ∧ decode cX12_settles 118 = .ok (.iload_n 3, 1) ∧ decode cX12_settles 119 = .ok (.aload_n 0, 1) ∧ decode cX12_settles 120 = .ok (.getfield 53, 3) := by decide +kernel
theorem e_X12_settles_7 : decode cX12_settles 123 = .ok (.iload 5, 2) ∧ decode cX12_settles 125 = .ok (.iaload, 1) ∧ decode cX12_settles 126 = .ok (.iastore, 1) ∧ decode cX12_settles 127 = .ok (.iinc 3 1, 3) ∧ decode cX12_settles 130 = .ok (.iinc 5 1, 3) ∧ decode cX12_settles 133 = .ok (.goto (-91), 3) ∧ decode cX12_settles 136 = .ok (.iinc 4 1, 3) ∧ decode cX12_settles 139 = .ok (.goto (-106), 3) ∧ decode cX12_settles 142 = .ok (.iconst 0, 1) ∧ decode cX12_settles 143 = .ok (.ireturn, 1) := by decide +kernel
abbrev E_X12_settles_2 (G : Kg) (l1 l2 l3 : Int) (σ : Kmem) (Q : Int → Kmem → Prop) : Prop := Ex G WM M_X12_settles 8 0 0 2 [(0, vA G 0), (1, vI l1), (2, vI l2), (3, vI l3)] [] σ Q
abbrev E_X12_settles_33 (G : Kg) (l1 l2 l3 l4 : Int) (σ : Kmem) (Q : Int → Kmem → Prop) : Prop := Ex G WM M_X12_settles 8 0 0 33 [(0, vA G 0), (1, vI l1), (2, vI l2), (3, vI l3), (4, vI l4)] [] σ Q
abbrev E_X12_settles_42 (G : Kg) (l1 l2 l3 l4 l5 : Int) (σ : Kmem) (Q : Int → Kmem → Prop) : Prop := Ex G WM M_X12_settles 8 0 0 42 [(0, vA G 0), (1, vI l1), (2, vI l2), (3, vI l3), (4, vI l4), (5, vI l5)] [] σ Q
theorem S_X12_settles {G : Kg} {σ : Kmem} {Q : Int → Kmem → Prop} {l1 l2 : Int}  (h : E_X12_settles_2 G l1 l2 0 σ Q) : Run G WM M_X12_settles 8 0 0 [vA G 0, vI l1, vI l2] σ Q := by
  refine Run.of (by decide +kernel) (by show (3 : Nat) ≤ 6; decide) ?_
  show Ex G WM M_X12_settles 8 0 0 0 [(0, vA G 0), (1, vI l1), (2, vI l2)] [] σ Q
  refine R_iconst e_X12_settles_0.1 ?_
  refine R_istore_n (ls2 := [(3, vI 0), (0, vA G 0), (1, vI l1), (2, vI l2)]) e_X12_settles_0.2.1 (by decide) rfl ?_
  refine R_ls (ls2 := [(0, vA G 0), (1, vI l1), (2, vI l2), (3, vI 0)]) [1, 2, 3, 0] rfl ?_
  exact h
theorem S_X12_settles_2 {G : Kg} {σ : Kmem} {Q : Int → Kmem → Prop} {l1 l2 l3 : Int}  (h : (rI l3) ∧ ((70 ≤ l3 → E_X12_settles_33 G l1 l2 1 0 (kup σ 13 0 l1) Q) ∧ (l3 < 70 → (0 ≤ l3 ∧ l3 < 70) ∧ E_X12_settles_2 G l1 l2 (l3 + 1) (kup σ 12 l3 (-1)) Q))) : E_X12_settles_2 G l1 l2 l3 σ Q := by
  refine R_iload_n e_X12_settles_0.2.2.1 3 rfl ?_
  refine R_bipush e_X12_settles_0.2.2.2.1 (by decide) ?_
  obtain ⟨q1, h⟩ := h
  refine R_icmp_ge 21 e_X12_settles_0.2.2.2.2.1 (by decide) q1 (by decide) (fun q => ?_) (fun q => ?_)
  · replace h := h.1 q
    refine R_aload_n e_X12_settles_1.2.2.1 0 rfl ?_
    refine R_getA 12 29 13 e_X12_settles_1.2.2.2.1 f_X12_59 km_0 (fun _ _ => rfl) rm_0_29 (by decide) ?_
    refine R_iconst e_X12_settles_1.2.2.2.2.1 ?_
    refine R_iload_n e_X12_settles_1.2.2.2.2.2.1 1 rfl ?_
    refine R_iast 6 WM_ok e_X12_settles_1.2.2.2.2.2.2.1 kma_13 (by decide) ?_
    refine R_iconst e_X12_settles_1.2.2.2.2.2.2.2.1 ?_
    refine R_istore_n (ls2 := [(3, vI 1), (0, vA G 0), (1, vI l1), (2, vI l2)]) e_X12_settles_1.2.2.2.2.2.2.2.2.1 (by decide) rfl ?_
    refine R_iconst e_X12_settles_1.2.2.2.2.2.2.2.2.2 ?_
    refine R_istore (ls2 := [(4, vI 0), (3, vI 1), (0, vA G 0), (1, vI l1), (2, vI l2)]) e_X12_settles_2.1 (by decide) rfl ?_
    refine R_ls (ls2 := [(0, vA G 0), (1, vI l1), (2, vI l2), (3, vI 1), (4, vI 0)]) [2, 3, 4, 1, 0] rfl ?_
    exact h
  · replace h := h.2 q
    refine R_aload_n e_X12_settles_0.2.2.2.2.2.1 0 rfl ?_
    refine R_getA 12 28 12 e_X12_settles_0.2.2.2.2.2.2.1 f_X12_56 km_0 (fun _ _ => rfl) rm_0_28 (by decide) ?_
    refine R_iload_n e_X12_settles_0.2.2.2.2.2.2.2.1 3 rfl ?_
    refine R_iconst e_X12_settles_0.2.2.2.2.2.2.2.2.1 ?_
    obtain ⟨q2, h⟩ := h
    refine R_iast 70 WM_ok e_X12_settles_0.2.2.2.2.2.2.2.2.2 kma_12 q2 ?_
    refine R_iinc (ls2 := [(3, vI (l3 + 1)), (0, vA G 0), (1, vI l1), (2, vI l2)]) e_X12_settles_1.1 3 rfl (by decide) rfl ?_
    refine R_goto 2 e_X12_settles_1.2.1 (by decide) ?_
    refine R_ls (ls2 := [(0, vA G 0), (1, vI l1), (2, vI l2), (3, vI (l3 + 1))]) [1, 2, 3, 0] rfl ?_
    exact h
theorem S_X12_settles_33 {G : Kg} {σ : Kmem} {Q : Int → Kmem → Prop} {l1 l2 l3 l4 : Int}  (h : (rI l4) ∧ (rI l3) ∧ ((l3 ≤ l4 → Q 0 σ) ∧ (l4 < l3 → E_X12_settles_42 G l1 l2 l3 l4 0 σ Q))) : E_X12_settles_33 G l1 l2 l3 l4 σ Q := by
  refine R_iload e_X12_settles_2.2.1 4 rfl ?_
  refine R_iload_n e_X12_settles_2.2.2.1 3 rfl ?_
  obtain ⟨q3, h⟩ := h
  obtain ⟨q4, h⟩ := h
  refine R_icmp_ge 142 e_X12_settles_2.2.2.2.1 (by decide) q3 q4 (fun q => ?_) (fun q => ?_)
  · replace h := h.1 q
    refine R_iconst e_X12_settles_7.2.2.2.2.2.2.2.2.1 ?_
    exact R_zreturn e_X12_settles_7.2.2.2.2.2.2.2.2.2 rfl (Or.inl rfl) h
  · replace h := h.2 q
    refine R_iconst e_X12_settles_2.2.2.2.2.1 ?_
    refine R_istore (ls2 := [(5, vI 0), (0, vA G 0), (1, vI l1), (2, vI l2), (3, vI l3), (4, vI l4)]) e_X12_settles_2.2.2.2.2.2.1 (by decide) rfl ?_
    refine R_ls (ls2 := [(0, vA G 0), (1, vI l1), (2, vI l2), (3, vI l3), (4, vI l4), (5, vI 0)]) [1, 2, 3, 4, 5, 0] rfl ?_
    exact h
theorem S_X12_settles_42 {G : Kg} {σ : Kmem} {Q : Int → Kmem → Prop} {l1 l2 l3 l4 l5 : Int}  (h : (rI l5) ∧ ((70 ≤ l5 → E_X12_settles_33 G l1 l2 l3 (l4 + 1) σ Q) ∧ (l5 < 70 → (0 ≤ l5 ∧ l5 < 70) ∧ (rI (σ 12 l5)) ∧ ((σ 12 l5 ≠ -1 → E_X12_settles_42 G l1 l2 l3 l4 (l5 + 1) σ Q) ∧ (σ 12 l5 = -1 → (0 ≤ l4 ∧ l4 < 6) ∧ Run G WM M_X12_isFor 7 0 0 [vA G 0, vI (σ 13 l4), vI l5, vI l2] σ (fun r9 s10 => (rI r9) ∧ ((r9 ≠ 0 → (0 ≤ l4 ∧ l4 < 6) ∧ (0 ≤ l5 ∧ l5 < 70) ∧ (0 ≤ l5 ∧ l5 < 70) ∧ (rI ((kup s10 12 l5 (s10 13 l4)) 11 l5)) ∧ (((kup s10 12 l5 (s10 13 l4)) 11 l5 ≠ -1 → (0 ≤ l5 ∧ l5 < 70) ∧ (0 ≤ l3 ∧ l3 < 6) ∧ E_X12_settles_42 G l1 l2 (l3 + 1) l4 (l5 + 1) (kup (kup s10 12 l5 (s10 13 l4)) 13 l3 ((kup s10 12 l5 (s10 13 l4)) 11 l5)) Q) ∧ ((kup s10 12 l5 (s10 13 l4)) 11 l5 = -1 → Run G WM M_X12_gives0 0 0 0 [vA G 0, vI l5, vI l1] (kup s10 12 l5 (s10 13 l4)) (fun r18 s19 => Q 1 s19)))) ∧ (r9 = 0 → E_X12_settles_42 G l1 l2 l3 l4 (l5 + 1) s10 Q)))))))) : E_X12_settles_42 G l1 l2 l3 l4 l5 σ Q := by
  refine R_iload e_X12_settles_2.2.2.2.2.2.2.1 5 rfl ?_
  refine R_bipush e_X12_settles_2.2.2.2.2.2.2.2.1 (by decide) ?_
  obtain ⟨q5, h⟩ := h
  refine R_icmp_ge 136 e_X12_settles_2.2.2.2.2.2.2.2.2.1 (by decide) q5 (by decide) (fun q => ?_) (fun q => ?_)
  · replace h := h.1 q
    refine R_iinc (ls2 := [(4, vI (l4 + 1)), (0, vA G 0), (1, vI l1), (2, vI l2), (3, vI l3), (5, vI l5)]) e_X12_settles_7.2.2.2.2.2.2.1 4 rfl (by decide) rfl ?_
    refine R_goto 33 e_X12_settles_7.2.2.2.2.2.2.2.1 (by decide) ?_
    refine R_ls (ls2 := [(0, vA G 0), (1, vI l1), (2, vI l2), (3, vI l3), (4, vI (l4 + 1))]) [1, 2, 3, 4, 0] rfl ?_
    exact h
  · replace h := h.2 q
    refine R_aload_n e_X12_settles_2.2.2.2.2.2.2.2.2.2 0 rfl ?_
    refine R_getA 12 28 12 e_X12_settles_3.1 f_X12_56 km_0 (fun _ _ => rfl) rm_0_28 (by decide) ?_
    refine R_iload e_X12_settles_3.2.1 5 rfl ?_
    obtain ⟨q6, h⟩ := h
    refine R_iald 70 e_X12_settles_3.2.2.1 kma_12 q6 ?_
    refine R_iconst e_X12_settles_3.2.2.2.1 ?_
    obtain ⟨q7, h⟩ := h
    refine R_icmp_ne 130 e_X12_settles_3.2.2.2.2.1 (by decide) q7 (by decide) (fun q => ?_) (fun q => ?_)
    · replace h := h.1 q
      refine R_iinc (ls2 := [(5, vI (l5 + 1)), (0, vA G 0), (1, vI l1), (2, vI l2), (3, vI l3), (4, vI l4)]) e_X12_settles_7.2.2.2.2.1 5 rfl (by decide) rfl ?_
      refine R_goto 42 e_X12_settles_7.2.2.2.2.2.1 (by decide) ?_
      refine R_ls (ls2 := [(0, vA G 0), (1, vI l1), (2, vI l2), (3, vI l3), (4, vI l4), (5, vI (l5 + 1))]) [1, 2, 3, 4, 5, 0] rfl ?_
      exact h
    · replace h := h.2 q
      refine R_aload_n e_X12_settles_3.2.2.2.2.2.1 0 rfl ?_
      refine R_aload_n e_X12_settles_3.2.2.2.2.2.2.1 0 rfl ?_
      refine R_getA 12 29 13 e_X12_settles_3.2.2.2.2.2.2.2.1 f_X12_59 km_0 (fun _ _ => rfl) rm_0_29 (by decide) ?_
      refine R_iload e_X12_settles_3.2.2.2.2.2.2.2.2.1 4 rfl ?_
      obtain ⟨q8, h⟩ := h
      refine R_iald 6 e_X12_settles_3.2.2.2.2.2.2.2.2.2 kma_13 q8 ?_
      refine R_iload e_X12_settles_4.1 5 rfl ?_
      refine R_iload_n e_X12_settles_4.2.1 2 rfl ?_
      refine R_callV (mc := 0) (ms := 0) (mc' := 0) (ms' := 0) (M' := M_X12_isFor) (d' := 7) (as := [vI (σ 13 l4), vI l5, vI l2]) (st := []) 12 3 e_X12_settles_4.2.2.1 (kCVof m_X12_isFor l_X12_459) rfl (by decide) km_0 (by decide) (by decide) rfl rfl (by show (0 : Nat) ≤ 8; decide) ?_
      refine Run.mono h (fun r9 s10 h => ?_)
      refine R_eqs (st2 := [vI r9]) rfl rfl ?_
      obtain ⟨q11, h⟩ := h
      refine R_if_ne 80 e_X12_settles_4.2.2.2.1 (by decide) q11  (fun q => ?_) (fun q => ?_)
      · replace h := h.1 q
        refine R_aload_n e_X12_settles_4.2.2.2.2.2.1 0 rfl ?_
        refine R_getA 12 28 12 e_X12_settles_4.2.2.2.2.2.2.1 f_X12_56 km_0 (fun _ _ => rfl) rm_0_28 (by decide) ?_
        refine R_iload e_X12_settles_4.2.2.2.2.2.2.2.1 5 rfl ?_
        refine R_aload_n e_X12_settles_4.2.2.2.2.2.2.2.2.1 0 rfl ?_
        refine R_getA 12 29 13 e_X12_settles_4.2.2.2.2.2.2.2.2.2 f_X12_59 km_0 (fun _ _ => rfl) rm_0_29 (by decide) ?_
        refine R_iload e_X12_settles_5.1 4 rfl ?_
        obtain ⟨q12, h⟩ := h
        refine R_iald 6 e_X12_settles_5.2.1 kma_13 q12 ?_
        obtain ⟨q13, h⟩ := h
        refine R_iast 70 WM_ok e_X12_settles_5.2.2.1 kma_12 q13 ?_
        refine R_aload_n e_X12_settles_5.2.2.2.1 0 rfl ?_
        refine R_getA 12 27 11 e_X12_settles_5.2.2.2.2.1 f_X12_53 km_0 (fun _ _ => rfl) rm_0_27 (by decide) ?_
        refine R_iload e_X12_settles_5.2.2.2.2.2.1 5 rfl ?_
        obtain ⟨q14, h⟩ := h
        refine R_iald 70 e_X12_settles_5.2.2.2.2.2.2.1 kma_11 q14 ?_
        refine R_iconst e_X12_settles_5.2.2.2.2.2.2.2.1 ?_
        obtain ⟨q15, h⟩ := h
        refine R_icmp_ne 114 e_X12_settles_5.2.2.2.2.2.2.2.2.1 (by decide) q15 (by decide) (fun q => ?_) (fun q => ?_)
        · replace h := h.1 q
          refine R_aload_n e_X12_settles_6.2.2.2.2.2.1 0 rfl ?_
          refine R_getA 12 29 13 e_X12_settles_6.2.2.2.2.2.2.1 f_X12_59 km_0 (fun _ _ => rfl) rm_0_29 (by decide) ?_
          refine R_iload_n e_X12_settles_6.2.2.2.2.2.2.2.1 3 rfl ?_
          refine R_aload_n e_X12_settles_6.2.2.2.2.2.2.2.2.1 0 rfl ?_
          refine R_getA 12 27 11 e_X12_settles_6.2.2.2.2.2.2.2.2.2 f_X12_53 km_0 (fun _ _ => rfl) rm_0_27 (by decide) ?_
          refine R_iload e_X12_settles_7.1 5 rfl ?_
          obtain ⟨q16, h⟩ := h
          refine R_iald 70 e_X12_settles_7.2.1 kma_11 q16 ?_
          obtain ⟨q17, h⟩ := h
          refine R_iast 6 WM_ok e_X12_settles_7.2.2.1 kma_13 q17 ?_
          refine R_iinc (ls2 := [(3, vI (l3 + 1)), (0, vA G 0), (1, vI l1), (2, vI l2), (4, vI l4), (5, vI l5)]) e_X12_settles_7.2.2.2.1 3 rfl (by decide) rfl ?_
          refine R_iinc (ls2 := [(5, vI (l5 + 1)), (3, vI (l3 + 1)), (0, vA G 0), (1, vI l1), (2, vI l2), (4, vI l4)]) e_X12_settles_7.2.2.2.2.1 5 rfl (by decide) rfl ?_
          refine R_goto 42 e_X12_settles_7.2.2.2.2.2.1 (by decide) ?_
          refine R_ls (ls2 := [(0, vA G 0), (1, vI l1), (2, vI l2), (3, vI (l3 + 1)), (4, vI l4), (5, vI (l5 + 1))]) [2, 3, 4, 1, 5, 0] rfl ?_
          exact h
        · replace h := h.2 q
          refine R_aload_n e_X12_settles_5.2.2.2.2.2.2.2.2.2 0 rfl ?_
          refine R_iload e_X12_settles_6.1 5 rfl ?_
          refine R_iload_n e_X12_settles_6.2.1 1 rfl ?_
          refine R_callV (mc := 0) (ms := 0) (mc' := 0) (ms' := 0) (M' := M_X12_gives0) (d' := 0) (as := [vI l5, vI l1]) (st := []) 12 2 e_X12_settles_6.2.2.1 (kCVof m_X12_gives0 l_X12_462) rfl (by decide) km_0 (by decide) (by decide) rfl rfl (by show (0 : Nat) ≤ 8; decide) ?_
          refine Run.mono h (fun r18 s19 h => ?_)
          refine R_eqs (st2 := []) rfl rfl ?_
          refine R_iconst e_X12_settles_6.2.2.2.1 ?_
          exact R_zreturn e_X12_settles_6.2.2.2.2.1 rfl (Or.inr rfl) h
      · replace h := h.2 q
        refine R_goto 130 e_X12_settles_4.2.2.2.2.1 (by decide) ?_
        refine R_iinc (ls2 := [(5, vI (l5 + 1)), (0, vA G 0), (1, vI l1), (2, vI l2), (3, vI l3), (4, vI l4)]) e_X12_settles_7.2.2.2.2.1 5 rfl (by decide) rfl ?_
        refine R_goto 42 e_X12_settles_7.2.2.2.2.2.1 (by decide) ?_
        refine R_ls (ls2 := [(0, vA G 0), (1, vI l1), (2, vI l2), (3, vI l3), (4, vI l4), (5, vI (l5 + 1))]) [1, 2, 3, 4, 5, 0] rfl ?_
        exact h
/-! KiteLandModel.gives0(II)V -/
theorem e_X12_gives0_0 : decode cX12_gives0 0 = .ok (.iload_n 1, 1) ∧ decode cX12_gives0 1 = .ok (.istore_n 3, 1) ∧ decode cX12_gives0 2 = .ok (.iload_n 3, 1) ∧ decode cX12_gives0 3 = .ok (.iconst (-1), 1) ∧ decode cX12_gives0 4 = .ok (.if_icmp .eq 72, 3) ∧ decode cX12_gives0 7 = .ok (.aload_n 0, 1) ∧ decode cX12_gives0 8 = .ok (.getfield 56, 3) ∧ decode cX12_gives0 11 = .ok (.iload_n 3, 1) ∧ decode cX12_gives0 12 = .ok (.iaload, 1) ∧ decode cX12_gives0 13 = .ok (.istore 4, 2) := by decide +kernel
theorem e_X12_gives0_1 : decode cX12_gives0 15 = .ok (.iconst (-1), 1) ∧ decode cX12_gives0 16 = .ok (.istore 5, 2) ∧ decode cX12_gives0 18 = .ok (.iconst 0, 1) ∧ decode cX12_gives0 19 = .ok (.istore 6, 2) ∧ decode cX12_gives0 21 = .ok (.iload 6, 2) ∧ decode cX12_gives0 23 = .ok (.bipush 70, 2) ∧ decode cX12_gives0 25 = .ok (.if_icmp .ge 37, 3) ∧ decode cX12_gives0 28 = .ok (.iload 4, 2) ∧ decode cX12_gives0 30 = .ok (.iload_n 2, 1) ∧ decode cX12_gives0 31 = .ok (.if_icmp .eq 25, 3) := by decide +kernel
theorem e_X12_gives0_2 : decode cX12_gives0 34 = .ok (.iload 6, 2) ∧ decode cX12_gives0 36 = .ok (.iload_n 3, 1) ∧ decode cX12_gives0 37 = .ok (.if_icmp .eq 19, 3) ∧ decode cX12_gives0 40 = .ok (.aload_n 0, 1) ∧ decode cX12_gives0 41 = .ok (.getfield 53, 3) ∧ decode cX12_gives0 44 = .ok (.iload 6, 2) ∧ decode cX12_gives0 46 = .ok (.iaload, 1) ∧ decode cX12_gives0 47 = .ok (.iload 4, 2) ∧ decode cX12_gives0 49 = .ok (.if_icmp .ne 7, 3) ∧ decode cX12_gives0 52 = .ok (.iload 6, 2) := by decide +kernel
theorem e_X12_gives0_3 : decode cX12_gives0 54 = .ok (.istore 5, 2) ∧ decode cX12_gives0 56 = .ok (.iinc 6 1, 3) ∧ decode cX12_gives0 59 = .ok (.goto (-38), 3) ∧ decode cX12_gives0 62 = .ok (.aload_n 0, 1) ∧ decode cX12_gives0 63 = .ok (.getfield 53, 3) ∧ decode cX12_gives0 66 = .ok (.iload_n 3, 1) ∧ decode cX12_gives0 67 = .ok (.iload 4, 2) ∧ decode cX12_gives0 69 = .ok (.iastore, 1) ∧ decode cX12_gives0 70 = .ok (.iload 5, 2) ∧ decode cX12_gives0 72 = .ok (.istore_n 3, 1) := by decide +kernel
theorem e_X12_gives0_4 : decode cX12_gives0 73 = .ok (.goto (-71), 3) ∧ decode cX12_gives0 76 = .ok (.return_, 1) := by decide +kernel
abbrev E_X12_gives0_2 (G : Kg) (l2 l3 : Int) (σ : Kmem) (Q : Int → Kmem → Prop) : Prop := Ex G WM M_X12_gives0 0 0 0 2 [(0, vA G 0), (2, vI l2), (3, vI l3)] [] σ Q
abbrev E_X12_gives0_21 (G : Kg) (l2 l3 l4 l5 l6 : Int) (σ : Kmem) (Q : Int → Kmem → Prop) : Prop := Ex G WM M_X12_gives0 0 0 0 21 [(0, vA G 0), (2, vI l2), (3, vI l3), (4, vI l4), (5, vI l5), (6, vI l6)] [] σ Q
theorem S_X12_gives0 {G : Kg} {σ : Kmem} {Q : Int → Kmem → Prop} {l1 l2 : Int}  (h : E_X12_gives0_2 G l2 l1 σ Q) : Run G WM M_X12_gives0 0 0 0 [vA G 0, vI l1, vI l2] σ Q := by
  refine Run.of (by decide +kernel) (by show (3 : Nat) ≤ 7; decide) ?_
  show Ex G WM M_X12_gives0 0 0 0 0 [(0, vA G 0), (1, vI l1), (2, vI l2)] [] σ Q
  refine R_iload_n e_X12_gives0_0.1 1 rfl ?_
  refine R_istore_n (ls2 := [(3, vI l1), (0, vA G 0), (1, vI l1), (2, vI l2)]) e_X12_gives0_0.2.1 (by decide) rfl ?_
  refine R_ls (ls2 := [(0, vA G 0), (2, vI l2), (3, vI l1)]) [1, 3, 0] rfl ?_
  exact h
theorem S_X12_gives0_2 {G : Kg} {σ : Kmem} {Q : Int → Kmem → Prop} {l1 l2 l3 : Int}  (h : (rI l3) ∧ ((l3 = -1 → Q 0 σ) ∧ (l3 ≠ -1 → (0 ≤ l3 ∧ l3 < 70) ∧ E_X12_gives0_21 G l2 l3 (σ 12 l3) (-1) 0 σ Q))) : E_X12_gives0_2 G l2 l3 σ Q := by
  refine R_iload_n e_X12_gives0_0.2.2.1 2 rfl ?_
  refine R_iconst e_X12_gives0_0.2.2.2.1 ?_
  obtain ⟨q1, h⟩ := h
  refine R_icmp_eq 76 e_X12_gives0_0.2.2.2.2.1 (by decide) q1 (by decide) (fun q => ?_) (fun q => ?_)
  · replace h := h.1 q
    exact R_return e_X12_gives0_4.2 rfl h
  · replace h := h.2 q
    refine R_aload_n e_X12_gives0_0.2.2.2.2.2.1 0 rfl ?_
    refine R_getA 12 28 12 e_X12_gives0_0.2.2.2.2.2.2.1 f_X12_56 km_0 (fun _ _ => rfl) rm_0_28 (by decide) ?_
    refine R_iload_n e_X12_gives0_0.2.2.2.2.2.2.2.1 2 rfl ?_
    obtain ⟨q2, h⟩ := h
    refine R_iald 70 e_X12_gives0_0.2.2.2.2.2.2.2.2.1 kma_12 q2 ?_
    refine R_istore (ls2 := [(4, vI (σ 12 l3)), (0, vA G 0), (2, vI l2), (3, vI l3)]) e_X12_gives0_0.2.2.2.2.2.2.2.2.2 (by decide) rfl ?_
    refine R_iconst e_X12_gives0_1.1 ?_
    refine R_istore (ls2 := [(5, vI (-1)), (4, vI (σ 12 l3)), (0, vA G 0), (2, vI l2), (3, vI l3)]) e_X12_gives0_1.2.1 (by decide) rfl ?_
    refine R_iconst e_X12_gives0_1.2.2.1 ?_
    refine R_istore (ls2 := [(6, vI 0), (5, vI (-1)), (4, vI (σ 12 l3)), (0, vA G 0), (2, vI l2), (3, vI l3)]) e_X12_gives0_1.2.2.2.1 (by decide) rfl ?_
    refine R_ls (ls2 := [(0, vA G 0), (2, vI l2), (3, vI l3), (4, vI (σ 12 l3)), (5, vI (-1)), (6, vI 0)]) [3, 4, 5, 2, 1, 0] rfl ?_
    exact h
theorem S_X12_gives0_21 {G : Kg} {σ : Kmem} {Q : Int → Kmem → Prop} {l1 l2 l3 l4 l5 l6 : Int}  (h : (rI l6) ∧ ((70 ≤ l6 → (0 ≤ l3 ∧ l3 < 70) ∧ E_X12_gives0_2 G l2 l5 (kup σ 11 l3 l4) Q) ∧ (l6 < 70 → (rI l4) ∧ (rI l2) ∧ ((l4 = l2 → E_X12_gives0_21 G l2 l3 l4 l5 (l6 + 1) σ Q) ∧ (l4 ≠ l2 → (rI l3) ∧ ((l6 = l3 → E_X12_gives0_21 G l2 l3 l4 l5 (l6 + 1) σ Q) ∧ (l6 ≠ l3 → (0 ≤ l6 ∧ l6 < 70) ∧ (rI (σ 11 l6)) ∧ ((σ 11 l6 ≠ l4 → E_X12_gives0_21 G l2 l3 l4 l5 (l6 + 1) σ Q) ∧ (σ 11 l6 = l4 → E_X12_gives0_21 G l2 l3 l4 l6 (l6 + 1) σ Q))))))))) : E_X12_gives0_21 G l2 l3 l4 l5 l6 σ Q := by
  refine R_iload e_X12_gives0_1.2.2.2.2.1 5 rfl ?_
  refine R_bipush e_X12_gives0_1.2.2.2.2.2.1 (by decide) ?_
  obtain ⟨q3, h⟩ := h
  refine R_icmp_ge 62 e_X12_gives0_1.2.2.2.2.2.2.1 (by decide) q3 (by decide) (fun q => ?_) (fun q => ?_)
  · replace h := h.1 q
    refine R_aload_n e_X12_gives0_3.2.2.2.1 0 rfl ?_
    refine R_getA 12 27 11 e_X12_gives0_3.2.2.2.2.1 f_X12_53 km_0 (fun _ _ => rfl) rm_0_27 (by decide) ?_
    refine R_iload_n e_X12_gives0_3.2.2.2.2.2.1 2 rfl ?_
    refine R_iload e_X12_gives0_3.2.2.2.2.2.2.1 3 rfl ?_
    obtain ⟨q4, h⟩ := h
    refine R_iast 70 WM_ok e_X12_gives0_3.2.2.2.2.2.2.2.1 kma_11 q4 ?_
    refine R_iload e_X12_gives0_3.2.2.2.2.2.2.2.2.1 4 rfl ?_
    refine R_istore_n (ls2 := [(3, vI l5), (0, vA G 0), (2, vI l2), (4, vI l4), (5, vI l5), (6, vI l6)]) e_X12_gives0_3.2.2.2.2.2.2.2.2.2 (by decide) rfl ?_
    refine R_goto 2 e_X12_gives0_4.1 (by decide) ?_
    refine R_ls (ls2 := [(0, vA G 0), (2, vI l2), (3, vI l5)]) [1, 2, 0] rfl ?_
    exact h
  · replace h := h.2 q
    refine R_iload e_X12_gives0_1.2.2.2.2.2.2.2.1 3 rfl ?_
    refine R_iload_n e_X12_gives0_1.2.2.2.2.2.2.2.2.1 1 rfl ?_
    obtain ⟨q5, h⟩ := h
    obtain ⟨q6, h⟩ := h
    refine R_icmp_eq 56 e_X12_gives0_1.2.2.2.2.2.2.2.2.2 (by decide) q5 q6 (fun q => ?_) (fun q => ?_)
    · replace h := h.1 q
      refine R_iinc (ls2 := [(6, vI (l6 + 1)), (0, vA G 0), (2, vI l2), (3, vI l3), (4, vI l4), (5, vI l5)]) e_X12_gives0_3.2.1 5 rfl (by decide) rfl ?_
      refine R_goto 21 e_X12_gives0_3.2.2.1 (by decide) ?_
      refine R_ls (ls2 := [(0, vA G 0), (2, vI l2), (3, vI l3), (4, vI l4), (5, vI l5), (6, vI (l6 + 1))]) [1, 2, 3, 4, 5, 0] rfl ?_
      exact h
    · replace h := h.2 q
      refine R_iload e_X12_gives0_2.1 5 rfl ?_
      refine R_iload_n e_X12_gives0_2.2.1 2 rfl ?_
      obtain ⟨q7, h⟩ := h
      refine R_icmp_eq 56 e_X12_gives0_2.2.2.1 (by decide) q3 q7 (fun q => ?_) (fun q => ?_)
      · replace h := h.1 q
        refine R_iinc (ls2 := [(6, vI (l6 + 1)), (0, vA G 0), (2, vI l2), (3, vI l3), (4, vI l4), (5, vI l5)]) e_X12_gives0_3.2.1 5 rfl (by decide) rfl ?_
        refine R_goto 21 e_X12_gives0_3.2.2.1 (by decide) ?_
        refine R_ls (ls2 := [(0, vA G 0), (2, vI l2), (3, vI l3), (4, vI l4), (5, vI l5), (6, vI (l6 + 1))]) [1, 2, 3, 4, 5, 0] rfl ?_
        exact h
      · replace h := h.2 q
        refine R_aload_n e_X12_gives0_2.2.2.2.1 0 rfl ?_
        refine R_getA 12 27 11 e_X12_gives0_2.2.2.2.2.1 f_X12_53 km_0 (fun _ _ => rfl) rm_0_27 (by decide) ?_
        refine R_iload e_X12_gives0_2.2.2.2.2.2.1 5 rfl ?_
        obtain ⟨q8, h⟩ := h
        refine R_iald 70 e_X12_gives0_2.2.2.2.2.2.2.1 kma_11 q8 ?_
        refine R_iload e_X12_gives0_2.2.2.2.2.2.2.2.1 3 rfl ?_
        obtain ⟨q9, h⟩ := h
        refine R_icmp_ne 56 e_X12_gives0_2.2.2.2.2.2.2.2.2.1 (by decide) q9 q5 (fun q => ?_) (fun q => ?_)
        · replace h := h.1 q
          refine R_iinc (ls2 := [(6, vI (l6 + 1)), (0, vA G 0), (2, vI l2), (3, vI l3), (4, vI l4), (5, vI l5)]) e_X12_gives0_3.2.1 5 rfl (by decide) rfl ?_
          refine R_goto 21 e_X12_gives0_3.2.2.1 (by decide) ?_
          refine R_ls (ls2 := [(0, vA G 0), (2, vI l2), (3, vI l3), (4, vI l4), (5, vI l5), (6, vI (l6 + 1))]) [1, 2, 3, 4, 5, 0] rfl ?_
          exact h
        · replace h := h.2 q
          refine R_iload e_X12_gives0_2.2.2.2.2.2.2.2.2.2 5 rfl ?_
          refine R_istore (ls2 := [(5, vI l6), (0, vA G 0), (2, vI l2), (3, vI l3), (4, vI l4), (6, vI l6)]) e_X12_gives0_3.1 (by decide) rfl ?_
          refine R_iinc (ls2 := [(6, vI (l6 + 1)), (5, vI l6), (0, vA G 0), (2, vI l2), (3, vI l3), (4, vI l4)]) e_X12_gives0_3.2.1 5 rfl (by decide) rfl ?_
          refine R_goto 21 e_X12_gives0_3.2.2.1 (by decide) ?_
          refine R_ls (ls2 := [(0, vA G 0), (2, vI l2), (3, vI l3), (4, vI l4), (5, vI l6), (6, vI (l6 + 1))]) [2, 3, 4, 5, 1, 0] rfl ?_
          exact h
/-! KiteLandModel.settle(I)I -/
theorem e_X12_settle_0 : decode cX12_settle 0 = .ok (.iload_n 1, 1) ∧ decode cX12_settle 1 = .ok (.i2l, 1) ∧ decode cX12_settle 2 = .ok (.lconst 0, 1) ∧ decode cX12_settle 3 = .ok (.ldc2_w 449, 3) ∧ decode cX12_settle 6 = .ok (.invokestatic 393, 3) ∧ decode cX12_settle 9 = .ok (.ifCond .ne 9, 3) ∧ decode cX12_settle 12 = .ok (.aload_n 0, 1) ∧ decode cX12_settle 13 = .ok (.iconst 1, 1) ∧ decode cX12_settle 14 = .ok (.invokevirtual 93, 3) ∧ decode cX12_settle 17 = .ok (.ireturn, 1) := by decide +kernel
theorem e_X12_settle_1 : decode cX12_settle 18 = .ok (.iconst 0, 1) ∧ decode cX12_settle 19 = .ok (.istore_n 2, 1) ∧ decode cX12_settle 20 = .ok (.iload_n 2, 1) ∧ decode cX12_settle 21 = .ok (.bipush 70, 2) ∧ decode cX12_settle 23 = .ok (.if_icmp .ge 16, 3) ∧ decode cX12_settle 26 = .ok (.aload_n 0, 1) ∧ decode cX12_settle 27 = .ok (.getfield 53, 3) ∧ decode cX12_settle 30 = .ok (.iload_n 2, 1) ∧ decode cX12_settle 31 = .ok (.iconst (-1), 1) ∧ decode cX12_settle 32 = .ok (.iastore, 1) := by decide +kernel
theorem e_X12_settle_2 : decode cX12_settle 33 = .ok (.iinc 2 1, 3) ∧ decode cX12_settle 36 = .ok (.goto (-16), 3) ∧ decode cX12_settle 39 = .ok (.iconst 0, 1) ∧ decode cX12_settle 40 = .ok (.istore_n 2, 1) ∧ decode cX12_settle 41 = .ok (.iconst 0, 1) ∧ decode cX12_settle 42 = .ok (.istore_n 3, 1) ∧ decode cX12_settle 43 = .ok (.iload_n 3, 1) ∧ decode cX12_settle 44 = .ok (.aload_n 0, 1) ∧ decode cX12_settle 45 = .ok (.getfield 7, 3) ∧ decode cX12_settle 48 = .ok (.iconst 4, 1) := by decide +kernel
theorem e_X12_settle_3 : decode cX12_settle 49 = .ok (.iaload, 1) ∧ decode cX12_settle 50 = .ok (.if_icmp .ge 26, 3) ∧ decode cX12_settle 53 = .ok (.iload_n 2, 1) ∧ decode cX12_settle 54 = .ok (.aload_n 0, 1) ∧ decode cX12_settle 55 = .ok (.iload_n 3, 1) ∧ decode cX12_settle 56 = .ok (.iload_n 1, 1) ∧ decode cX12_settle 57 = .ok (.invokevirtual 465, 3) ∧ decode cX12_settle 60 = .ok (.ifCond .eq 7, 3) ∧ decode cX12_settle 63 = .ok (.iconst 1, 1) ∧ decode cX12_settle 64 = .ok (.goto 4, 3) := by decide +kernel
theorem e_X12_settle_4 : decode cX12_settle 67 = .ok (.iconst 0, 1) ∧ decode cX12_settle 68 = .ok (.iadd, 1) ∧ decode cX12_settle 69 = .ok (.istore_n 2, 1) ∧ decode cX12_settle 70 = .ok (.iinc 3 1, 3) ∧ decode cX12_settle 73 = .ok (.goto (-30), 3) ∧ decode cX12_settle 76 = .ok (.aload_n 0, 1) ∧ decode cX12_settle 77 = .ok (.iload_n 2, 1) ∧ decode cX12_settle 78 = .ok (.invokevirtual 97, 3) ∧ decode cX12_settle 81 = .ok (.ireturn, 1) := by decide +kernel
abbrev E_X12_settle_20 (G : Kg) (l1 l2 : Int) (σ : Kmem) (Q : Int → Kmem → Prop) : Prop := Ex G WM M_X12_settle 9 0 0 20 [(0, vA G 0), (1, vI l1), (2, vI l2)] [] σ Q
abbrev E_X12_settle_43 (G : Kg) (l1 l2 l3 : Int) (σ : Kmem) (Q : Int → Kmem → Prop) : Prop := Ex G WM M_X12_settle 9 0 0 43 [(0, vA G 0), (1, vI l1), (2, vI l2), (3, vI l3)] [] σ Q
theorem S_X12_settle {G : Kg} {σ : Kmem} {Q : Int → Kmem → Prop} {l1 : Int}  (h : (rI l1) ∧ (rL l1 ∧ rL 0 ∧ rL 20) ∧ ((((0 : Int) ≤ l1 ∧ (l1 : Int) ≤ 20) → E_X12_settle_20 G l1 0 σ Q) ∧ (¬ ((0 : Int) ≤ l1 ∧ (l1 : Int) ≤ 20) → Q (-1) (kup σ 0 2 1)))) : Run G WM M_X12_settle 9 0 0 [vA G 0, vI l1] σ Q := by
  refine Run.of (by decide +kernel) (by show (2 : Nat) ≤ 4; decide) ?_
  show Ex G WM M_X12_settle 9 0 0 0 [(0, vA G 0), (1, vI l1)] [] σ Q
  refine R_iload_n e_X12_settle_0.1 1 rfl ?_
  obtain ⟨q1, h⟩ := h
  refine R_i2l e_X12_settle_0.2.1 q1 ?_
  refine R_lconst 0 e_X12_settle_0.2.2.1 (by decide) ?_
  refine R_ldc2 (20) k_X12_449 e_X12_settle_0.2.2.2.1 ?_
  obtain ⟨q4, h⟩ := h
  refine R_callS (mc := 0) (ms := 0) (mc' := 0) (ms' := 0) (M' := M_X12_isFrom) (d' := 0) (as := [vL l1, vL 0, vL 20]) (st := []) 3 e_X12_settle_0.2.2.2.2.1 (kCSof m_X12_isFrom l_X12_393) (by decide) (by decide) rfl rfl (by show (0 : Nat) ≤ 8; decide) ?_
  refine Run.mono (P_X12_isFrom q4) (fun r s e => ?_)
  obtain ⟨e1, e2⟩ := e
  refine R_eqs (st2 := [vI (kb ((0 : Int) ≤ l1 ∧ (l1 : Int) ≤ 20))]) (σ2 := σ) (by rw [e1]; rfl) e2 ?_
  refine R_if_ne 18 e_X12_settle_0.2.2.2.2.2.1 (by decide) (kb_r _) (fun q => ?_) (fun q => ?_)
  · replace h := h.1 (kb_t q)
    refine R_iconst e_X12_settle_1.1 ?_
    refine R_istore_n (ls2 := [(2, vI 0), (0, vA G 0), (1, vI l1)]) e_X12_settle_1.2.1 (by decide) rfl ?_
    refine R_ls (ls2 := [(0, vA G 0), (1, vI l1), (2, vI 0)]) [1, 2, 0] rfl ?_
    exact h
  · replace h := h.2 (kb_f q)
    refine R_aload_n e_X12_settle_0.2.2.2.2.2.2.1 0 rfl ?_
    refine R_iconst e_X12_settle_0.2.2.2.2.2.2.2.1 ?_
    refine R_callV (mc := 0) (ms := 0) (mc' := 0) (ms' := 0) (M' := M_X12_refuse) (d' := 0) (as := [vI 1]) (st := []) 12 1 e_X12_settle_0.2.2.2.2.2.2.2.2.1 (kCVof m_X12_refuse l_X12_93) rfl (by decide) km_0 (by decide) (by decide) rfl rfl (by show (0 : Nat) ≤ 8; decide) ?_
    refine S_X12_refuse ?_
    refine R_eqs (st2 := [vI (-1)]) (σ2 := (kup σ 0 2 1)) rfl rfl ?_
    exact R_ireturn e_X12_settle_0.2.2.2.2.2.2.2.2.2 rfl h
theorem S_X12_settle_20 {G : Kg} {σ : Kmem} {Q : Int → Kmem → Prop} {l1 l2 : Int}  (h : (rI l2) ∧ ((70 ≤ l2 → E_X12_settle_43 G l1 0 0 σ Q) ∧ (l2 < 70 → (0 ≤ l2 ∧ l2 < 70) ∧ E_X12_settle_20 G l1 (l2 + 1) (kup σ 11 l2 (-1)) Q))) : E_X12_settle_20 G l1 l2 σ Q := by
  refine R_iload_n e_X12_settle_1.2.2.1 2 rfl ?_
  refine R_bipush e_X12_settle_1.2.2.2.1 (by decide) ?_
  obtain ⟨q7, h⟩ := h
  refine R_icmp_ge 39 e_X12_settle_1.2.2.2.2.1 (by decide) q7 (by decide) (fun q => ?_) (fun q => ?_)
  · replace h := h.1 q
    refine R_iconst e_X12_settle_2.2.2.1 ?_
    refine R_istore_n (ls2 := [(2, vI 0), (0, vA G 0), (1, vI l1)]) e_X12_settle_2.2.2.2.1 (by decide) rfl ?_
    refine R_iconst e_X12_settle_2.2.2.2.2.1 ?_
    refine R_istore_n (ls2 := [(3, vI 0), (2, vI 0), (0, vA G 0), (1, vI l1)]) e_X12_settle_2.2.2.2.2.2.1 (by decide) rfl ?_
    refine R_ls (ls2 := [(0, vA G 0), (1, vI l1), (2, vI 0), (3, vI 0)]) [2, 3, 1, 0] rfl ?_
    exact h
  · replace h := h.2 q
    refine R_aload_n e_X12_settle_1.2.2.2.2.2.1 0 rfl ?_
    refine R_getA 12 27 11 e_X12_settle_1.2.2.2.2.2.2.1 f_X12_53 km_0 (fun _ _ => rfl) rm_0_27 (by decide) ?_
    refine R_iload_n e_X12_settle_1.2.2.2.2.2.2.2.1 2 rfl ?_
    refine R_iconst e_X12_settle_1.2.2.2.2.2.2.2.2.1 ?_
    obtain ⟨q8, h⟩ := h
    refine R_iast 70 WM_ok e_X12_settle_1.2.2.2.2.2.2.2.2.2 kma_11 q8 ?_
    refine R_iinc (ls2 := [(2, vI (l2 + 1)), (0, vA G 0), (1, vI l1)]) e_X12_settle_2.1 2 rfl (by decide) rfl ?_
    refine R_goto 20 e_X12_settle_2.2.1 (by decide) ?_
    refine R_ls (ls2 := [(0, vA G 0), (1, vI l1), (2, vI (l2 + 1))]) [1, 2, 0] rfl ?_
    exact h
theorem S_X12_settle_43 {G : Kg} {σ : Kmem} {Q : Int → Kmem → Prop} {l1 l2 l3 : Int}  (h : (rI l3) ∧ (rI (σ 1 4)) ∧ ((σ 1 4 ≤ l3 → Q l2 (kup σ 0 2 0)) ∧ (l3 < σ 1 4 → Run G WM M_X12_settles 8 0 0 [vA G 0, vI l3, vI l1] σ (fun r13 s14 => (rI r13) ∧ ((r13 = 0 → E_X12_settle_43 G l1 (l2 + 0) (l3 + 1) s14 Q) ∧ (r13 ≠ 0 → E_X12_settle_43 G l1 (l2 + 1) (l3 + 1) s14 Q)))))) : E_X12_settle_43 G l1 l2 l3 σ Q := by
  refine R_iload_n e_X12_settle_2.2.2.2.2.2.2.1 3 rfl ?_
  refine R_aload_n e_X12_settle_2.2.2.2.2.2.2.2.1 0 rfl ?_
  refine R_getA 12 0 1 e_X12_settle_2.2.2.2.2.2.2.2.2.1 f_X12_7 km_0 (fun _ _ => rfl) rm_0_0 (by decide) ?_
  refine R_iconst e_X12_settle_2.2.2.2.2.2.2.2.2.2 ?_
  refine R_iald 3598 e_X12_settle_3.1 kma_1 (by decide) ?_
  obtain ⟨q9, h⟩ := h
  obtain ⟨q10, h⟩ := h
  refine R_icmp_ge 76 e_X12_settle_3.2.1 (by decide) q9 q10 (fun q => ?_) (fun q => ?_)
  · replace h := h.1 q
    refine R_aload_n e_X12_settle_4.2.2.2.2.2.1 0 rfl ?_
    refine R_iload_n e_X12_settle_4.2.2.2.2.2.2.1 2 rfl ?_
    refine R_callV (mc := 0) (ms := 0) (mc' := 0) (ms' := 0) (M' := M_X12_gives) (d' := 0) (as := [vI l2]) (st := []) 12 1 e_X12_settle_4.2.2.2.2.2.2.2.1 (kCVof m_X12_gives l_X12_97) rfl (by decide) km_0 (by decide) (by decide) rfl rfl (by show (0 : Nat) ≤ 8; decide) ?_
    refine S_X12_gives ?_
    refine R_eqs (st2 := [vI l2]) (σ2 := (kup σ 0 2 0)) rfl rfl ?_
    exact R_ireturn e_X12_settle_4.2.2.2.2.2.2.2.2 rfl h
  · replace h := h.2 q
    refine R_iload_n e_X12_settle_3.2.2.1 2 rfl ?_
    refine R_aload_n e_X12_settle_3.2.2.2.1 0 rfl ?_
    refine R_iload_n e_X12_settle_3.2.2.2.2.1 3 rfl ?_
    refine R_iload_n e_X12_settle_3.2.2.2.2.2.1 1 rfl ?_
    refine R_callV (mc := 0) (ms := 0) (mc' := 0) (ms' := 0) (M' := M_X12_settles) (d' := 8) (as := [vI l3, vI l1]) (st := [vI l2]) 12 2 e_X12_settle_3.2.2.2.2.2.2.1 (kCVof m_X12_settles l_X12_465) rfl (by decide) km_0 (by decide) (by decide) rfl rfl (by show (1 : Nat) ≤ 8; decide) ?_
    refine Run.mono h (fun r13 s14 h => ?_)
    refine R_eqs (st2 := [vI r13, vI l2]) rfl rfl ?_
    obtain ⟨q15, h⟩ := h
    refine R_if_eq 67 e_X12_settle_3.2.2.2.2.2.2.2.1 (by decide) q15  (fun q => ?_) (fun q => ?_)
    · replace h := h.1 q
      refine R_iconst e_X12_settle_4.1 ?_
      refine R_iadd e_X12_settle_4.2.1 ?_
      refine R_istore_n (ls2 := [(2, vI (l2 + 0)), (0, vA G 0), (1, vI l1), (3, vI l3)]) e_X12_settle_4.2.2.1 (by decide) rfl ?_
      refine R_iinc (ls2 := [(3, vI (l3 + 1)), (2, vI (l2 + 0)), (0, vA G 0), (1, vI l1)]) e_X12_settle_4.2.2.2.1 3 rfl (by decide) rfl ?_
      refine R_goto 43 e_X12_settle_4.2.2.2.2.1 (by decide) ?_
      refine R_ls (ls2 := [(0, vA G 0), (1, vI l1), (2, vI (l2 + 0)), (3, vI (l3 + 1))]) [2, 3, 1, 0] rfl ?_
      exact h
    · replace h := h.2 q
      refine R_iconst e_X12_settle_3.2.2.2.2.2.2.2.2.1 ?_
      refine R_goto 68 e_X12_settle_3.2.2.2.2.2.2.2.2.2 (by decide) ?_
      refine R_iadd e_X12_settle_4.2.1 ?_
      refine R_istore_n (ls2 := [(2, vI (l2 + 1)), (0, vA G 0), (1, vI l1), (3, vI l3)]) e_X12_settle_4.2.2.1 (by decide) rfl ?_
      refine R_iinc (ls2 := [(3, vI (l3 + 1)), (2, vI (l2 + 1)), (0, vA G 0), (1, vI l1)]) e_X12_settle_4.2.2.2.1 3 rfl (by decide) rfl ?_
      refine R_goto 43 e_X12_settle_4.2.2.2.2.1 (by decide) ?_
      refine R_ls (ls2 := [(0, vA G 0), (1, vI l1), (2, vI (l2 + 1)), (3, vI (l3 + 1))]) [2, 3, 1, 0] rfl ?_
      exact h
/-! KiteLandModel.flies(IIIII)I -/
theorem e_X12_flies_0 : decode cX12_flies 0 = .ok (.iconst 0, 1) ∧ decode cX12_flies 1 = .ok (.istore 6, 2) ∧ decode cX12_flies 3 = .ok (.iconst 1, 1) ∧ decode cX12_flies 4 = .ok (.istore 7, 2) ∧ decode cX12_flies 6 = .ok (.iconst 1, 1) ∧ decode cX12_flies 7 = .ok (.istore 8, 2) ∧ decode cX12_flies 9 = .ok (.iload 8, 2) ∧ decode cX12_flies 11 = .ok (.iload 4, 2) ∧ decode cX12_flies 13 = .ok (.if_icmp .ge 15, 3) ∧ decode cX12_flies 16 = .ok (.iload 7, 2) := by decide +kernel
theorem e_X12_flies_1 : decode cX12_flies 18 = .ok (.iconst 5, 1) ∧ decode cX12_flies 19 = .ok (.imul, 1) ∧ decode cX12_flies 20 = .ok (.istore 7, 2) ∧ decode cX12_flies 22 = .ok (.iinc 8 1, 3) ∧ decode cX12_flies 25 = .ok (.goto (-16), 3) ∧ decode cX12_flies 28 = .ok (.iload 5, 2) ∧ decode cX12_flies 30 = .ok (.istore 8, 2) ∧ decode cX12_flies 32 = .ok (.iload 7, 2) ∧ decode cX12_flies 34 = .ok (.ifCond .le 74, 3) ∧ decode cX12_flies 37 = .ok (.aload_n 0, 1) := by decide +kernel
theorem e_X12_flies_2 : decode cX12_flies 38 = .ok (.iload_n 1, 1) ∧ decode cX12_flies 39 = .ok (.iload 8, 2) ∧ decode cX12_flies 41 = .ok (.iload 7, 2) ∧ decode cX12_flies 43 = .ok (.idiv, 1) ∧ decode cX12_flies 44 = .ok (.invokevirtual 402, 3) ∧ decode cX12_flies 47 = .ok (.ifCond .ne 5, 3) ∧ decode cX12_flies 50 = .ok (.iconst (-1), 1) ∧ decode cX12_flies 51 = .ok (.ireturn, 1) ∧ decode cX12_flies 52 = .ok (.iload 8, 2) ∧ decode cX12_flies 54 = .ok (.iload 7, 2) := by decide +kernel
theorem e_X12_flies_3 : decode cX12_flies 56 = .ok (.irem, 1) ∧ decode cX12_flies 57 = .ok (.istore 8, 2) ∧ decode cX12_flies 59 = .ok (.aload_n 0, 1) ∧ decode cX12_flies 60 = .ok (.invokevirtual 385, 3) ∧ decode cX12_flies 63 = .ok (.pop, 1) ∧ decode cX12_flies 64 = .ok (.iload 6, 2) ∧ decode cX12_flies 66 = .ok (.aload_n 0, 1) ∧ decode cX12_flies 67 = .ok (.iload_n 2, 1) ∧ decode cX12_flies 68 = .ok (.iload_n 3, 1) ∧ decode cX12_flies 69 = .ok (.aload_n 0, 1) := by decide +kernel
theorem e_X12_flies_4 : decode cX12_flies 70 = .ok (.invokevirtual 325, 3) ∧ decode cX12_flies 73 = .ok (.invokevirtual 312, 3) ∧ decode cX12_flies 76 = .ok (.iload_n 1, 1) ∧ decode cX12_flies 77 = .ok (.if_icmp .ne 7, 3) ∧ decode cX12_flies 80 = .ok (.iconst 1, 1) ∧ decode cX12_flies 81 = .ok (.goto 4, 3) ∧ decode cX12_flies 84 = .ok (.iconst 0, 1) ∧ decode cX12_flies 85 = .ok (.iadd, 1) ∧ decode cX12_flies 86 = .ok (.istore 6, 2) ∧ decode cX12_flies 88 = .ok (.aload_n 0, 1) := by decide +kernel
theorem e_X12_flies_5 : decode cX12_flies 89 = .ok (.getfield 7, 3) ∧ decode cX12_flies 92 = .ok (.bipush 7, 2) ∧ decode cX12_flies 94 = .ok (.dup2, 1) ∧ decode cX12_flies 95 = .ok (.iaload, 1) ∧ decode cX12_flies 96 = .ok (.iconst 1, 1) ∧ decode cX12_flies 97 = .ok (.iadd, 1) ∧ decode cX12_flies 98 = .ok (.iastore, 1) ∧ decode cX12_flies 99 = .ok (.iload 7, 2) ∧ decode cX12_flies 101 = .ok (.iconst 5, 1) ∧ decode cX12_flies 102 = .ok (.idiv, 1) := by decide +kernel
theorem e_X12_flies_6 : decode cX12_flies 103 = .ok (.istore 7, 2) ∧ decode cX12_flies 105 = .ok (.goto (-73), 3) ∧ decode cX12_flies 108 = .ok (.iload 6, 2) ∧ decode cX12_flies 110 = .ok (.ireturn, 1) := by decide +kernel
abbrev E_X12_flies_9 (G : Kg) (l1 l2 l3 l4 l5 l6 l7 l8 : Int) (σ : Kmem) (Q : Int → Kmem → Prop) : Prop := Ex G WM M_X12_flies 8 0 0 9 [(0, vA G 0), (1, vI l1), (2, vI l2), (3, vI l3), (4, vI l4), (5, vI l5), (6, vI l6), (7, vI l7), (8, vI l8)] [] σ Q
abbrev E_X12_flies_32 (G : Kg) (l1 l2 l3 l6 l7 l8 : Int) (σ : Kmem) (Q : Int → Kmem → Prop) : Prop := Ex G WM M_X12_flies 8 0 0 32 [(0, vA G 0), (1, vI l1), (2, vI l2), (3, vI l3), (6, vI l6), (7, vI l7), (8, vI l8)] [] σ Q
theorem S_X12_flies {G : Kg} {σ : Kmem} {Q : Int → Kmem → Prop} {l1 l2 l3 l4 l5 : Int}  (h : E_X12_flies_9 G l1 l2 l3 l4 l5 0 1 1 σ Q) : Run G WM M_X12_flies 8 0 0 [vA G 0, vI l1, vI l2, vI l3, vI l4, vI l5] σ Q := by
  refine Run.of (by decide +kernel) (by show (6 : Nat) ≤ 9; decide) ?_
  show Ex G WM M_X12_flies 8 0 0 0 [(0, vA G 0), (1, vI l1), (2, vI l2), (3, vI l3), (4, vI l4), (5, vI l5)] [] σ Q
  refine R_iconst e_X12_flies_0.1 ?_
  refine R_istore (ls2 := [(6, vI 0), (0, vA G 0), (1, vI l1), (2, vI l2), (3, vI l3), (4, vI l4), (5, vI l5)]) e_X12_flies_0.2.1 (by decide) rfl ?_
  refine R_iconst e_X12_flies_0.2.2.1 ?_
  refine R_istore (ls2 := [(7, vI 1), (6, vI 0), (0, vA G 0), (1, vI l1), (2, vI l2), (3, vI l3), (4, vI l4), (5, vI l5)]) e_X12_flies_0.2.2.2.1 (by decide) rfl ?_
  refine R_iconst e_X12_flies_0.2.2.2.2.1 ?_
  refine R_istore (ls2 := [(8, vI 1), (7, vI 1), (6, vI 0), (0, vA G 0), (1, vI l1), (2, vI l2), (3, vI l3), (4, vI l4), (5, vI l5)]) e_X12_flies_0.2.2.2.2.2.1 (by decide) rfl ?_
  refine R_ls (ls2 := [(0, vA G 0), (1, vI l1), (2, vI l2), (3, vI l3), (4, vI l4), (5, vI l5), (6, vI 0), (7, vI 1), (8, vI 1)]) [3, 4, 5, 6, 7, 8, 2, 1, 0] rfl ?_
  exact h
theorem S_X12_flies_9 {G : Kg} {σ : Kmem} {Q : Int → Kmem → Prop} {l1 l2 l3 l4 l5 l6 l7 l8 : Int}  (h : (rI l8) ∧ (rI l4) ∧ ((l4 ≤ l8 → E_X12_flies_32 G l1 l2 l3 l6 l7 l5 σ Q) ∧ (l8 < l4 → E_X12_flies_9 G l1 l2 l3 l4 l5 l6 (l7 * 5) (l8 + 1) σ Q))) : E_X12_flies_9 G l1 l2 l3 l4 l5 l6 l7 l8 σ Q := by
  refine R_iload e_X12_flies_0.2.2.2.2.2.2.1 8 rfl ?_
  refine R_iload e_X12_flies_0.2.2.2.2.2.2.2.1 4 rfl ?_
  obtain ⟨q1, h⟩ := h
  obtain ⟨q2, h⟩ := h
  refine R_icmp_ge 28 e_X12_flies_0.2.2.2.2.2.2.2.2.1 (by decide) q1 q2 (fun q => ?_) (fun q => ?_)
  · replace h := h.1 q
    refine R_iload e_X12_flies_1.2.2.2.2.2.1 5 rfl ?_
    refine R_istore (ls2 := [(8, vI l5), (0, vA G 0), (1, vI l1), (2, vI l2), (3, vI l3), (4, vI l4), (5, vI l5), (6, vI l6), (7, vI l7)]) e_X12_flies_1.2.2.2.2.2.2.1 (by decide) rfl ?_
    refine R_ls (ls2 := [(0, vA G 0), (1, vI l1), (2, vI l2), (3, vI l3), (6, vI l6), (7, vI l7), (8, vI l5)]) [1, 2, 3, 4, 7, 8, 0] rfl ?_
    exact h
  · replace h := h.2 q
    refine R_iload e_X12_flies_0.2.2.2.2.2.2.2.2.2 7 rfl ?_
    refine R_iconst e_X12_flies_1.1 ?_
    refine R_imul e_X12_flies_1.2.1 ?_
    refine R_istore (ls2 := [(7, vI (l7 * 5)), (0, vA G 0), (1, vI l1), (2, vI l2), (3, vI l3), (4, vI l4), (5, vI l5), (6, vI l6), (8, vI l8)]) e_X12_flies_1.2.2.1 (by decide) rfl ?_
    refine R_iinc (ls2 := [(8, vI (l8 + 1)), (7, vI (l7 * 5)), (0, vA G 0), (1, vI l1), (2, vI l2), (3, vI l3), (4, vI l4), (5, vI l5), (6, vI l6)]) e_X12_flies_1.2.2.2.1 8 rfl (by decide) rfl ?_
    refine R_goto 9 e_X12_flies_1.2.2.2.2.1 (by decide) ?_
    refine R_ls (ls2 := [(0, vA G 0), (1, vI l1), (2, vI l2), (3, vI l3), (4, vI l4), (5, vI l5), (6, vI l6), (7, vI (l7 * 5)), (8, vI (l8 + 1))]) [2, 3, 4, 5, 6, 7, 8, 1, 0] rfl ?_
    exact h
theorem S_X12_flies_32 {G : Kg} {σ : Kmem} {Q : Int → Kmem → Prop} {l1 l2 l3 l4 l5 l6 l7 l8 : Int}  (h : (rI l7) ∧ ((l7 ≤ 0 → Q l6 σ) ∧ (0 < l7 → (0 ≤ l8 ∧ l8 ≤ 2147483647) ∧ (0 < l7 ∧ l7 ≤ 2147483647) ∧ (wf (σ 1) ∧ sKt (σ 1) (l1) ∧ rI ((l8 / l7))) ∧ (((sMay (σ 1) (l1) ((l8 / l7))) → (0 ≤ l8 ∧ l8 ≤ 2147483647) ∧ (0 < l7 ∧ l7 ≤ 2147483647) ∧ (wf ((kst σ 1 (kif (sMay (σ 1) (l1) ((l8 / l7))) (sWalk (σ 1) (l1) ((l8 / l7))) (σ 1))) 1)) ∧ (0 ≤ (kst (kst σ 1 (kif (sMay (σ 1) (l1) ((l8 / l7))) (sWalk (σ 1) (l1) ((l8 / l7))) (σ 1))) 1 (sCuts ((kst σ 1 (kif (sMay (σ 1) (l1) ((l8 / l7))) (sWalk (σ 1) (l1) ((l8 / l7))) (σ 1))) 1))) 1 7 ∧ (kst (kst σ 1 (kif (sMay (σ 1) (l1) ((l8 / l7))) (sWalk (σ 1) (l1) ((l8 / l7))) (σ 1))) 1 (sCuts ((kst σ 1 (kif (sMay (σ 1) (l1) ((l8 / l7))) (sWalk (σ 1) (l1) ((l8 / l7))) (σ 1))) 1))) 1 7 ≤ 2147483647) ∧ (wf ((kst (kst σ 1 (kif (sMay (σ 1) (l1) ((l8 / l7))) (sWalk (σ 1) (l1) ((l8 / l7))) (σ 1))) 1 (sCuts ((kst σ 1 (kif (sMay (σ 1) (l1) ((l8 / l7))) (sWalk (σ 1) (l1) ((l8 / l7))) (σ 1))) 1))) 1) ∧ ((0 : Int) ≤ l2 ∧ (l2 : Int) ≤ 100) ∧ ((0 : Int) ≤ l3 ∧ (l3 : Int) ≤ 100) ∧ sHr ((((kst (kst σ 1 (kif (sMay (σ 1) (l1) ((l8 / l7))) (sWalk (σ 1) (l1) ((l8 / l7))) (σ 1))) 1 (sCuts ((kst σ 1 (kif (sMay (σ 1) (l1) ((l8 / l7))) (sWalk (σ 1) (l1) ((l8 / l7))) (σ 1))) 1))) 1 7) % 12))) ∧ (rI (sOwn ((kst (kst σ 1 (kif (sMay (σ 1) (l1) ((l8 / l7))) (sWalk (σ 1) (l1) ((l8 / l7))) (σ 1))) 1 (sCuts ((kst σ 1 (kif (sMay (σ 1) (l1) ((l8 / l7))) (sWalk (σ 1) (l1) ((l8 / l7))) (σ 1))) 1))) 1) (l2) (l3) ((((kst (kst σ 1 (kif (sMay (σ 1) (l1) ((l8 / l7))) (sWalk (σ 1) (l1) ((l8 / l7))) (σ 1))) 1 (sCuts ((kst σ 1 (kif (sMay (σ 1) (l1) ((l8 / l7))) (sWalk (σ 1) (l1) ((l8 / l7))) (σ 1))) 1))) 1 7) % 12)))) ∧ (rI l1) ∧ ((sOwn ((kst (kst σ 1 (kif (sMay (σ 1) (l1) ((l8 / l7))) (sWalk (σ 1) (l1) ((l8 / l7))) (σ 1))) 1 (sCuts ((kst σ 1 (kif (sMay (σ 1) (l1) ((l8 / l7))) (sWalk (σ 1) (l1) ((l8 / l7))) (σ 1))) 1))) 1) (l2) (l3) ((((kst (kst σ 1 (kif (sMay (σ 1) (l1) ((l8 / l7))) (sWalk (σ 1) (l1) ((l8 / l7))) (σ 1))) 1 (sCuts ((kst σ 1 (kif (sMay (σ 1) (l1) ((l8 / l7))) (sWalk (σ 1) (l1) ((l8 / l7))) (σ 1))) 1))) 1 7) % 12)) ≠ l1 → (0 ≤ l7 ∧ l7 ≤ 2147483647) ∧ E_X12_flies_32 G l1 l2 l3 (l6 + 0) (l7 / 5) (l8 % l7) (kup (kst (kst σ 1 (kif (sMay (σ 1) (l1) ((l8 / l7))) (sWalk (σ 1) (l1) ((l8 / l7))) (σ 1))) 1 (sCuts ((kst σ 1 (kif (sMay (σ 1) (l1) ((l8 / l7))) (sWalk (σ 1) (l1) ((l8 / l7))) (σ 1))) 1))) 1 7 (((kst (kst σ 1 (kif (sMay (σ 1) (l1) ((l8 / l7))) (sWalk (σ 1) (l1) ((l8 / l7))) (σ 1))) 1 (sCuts ((kst σ 1 (kif (sMay (σ 1) (l1) ((l8 / l7))) (sWalk (σ 1) (l1) ((l8 / l7))) (σ 1))) 1))) 1 7) + 1)) Q) ∧ (sOwn ((kst (kst σ 1 (kif (sMay (σ 1) (l1) ((l8 / l7))) (sWalk (σ 1) (l1) ((l8 / l7))) (σ 1))) 1 (sCuts ((kst σ 1 (kif (sMay (σ 1) (l1) ((l8 / l7))) (sWalk (σ 1) (l1) ((l8 / l7))) (σ 1))) 1))) 1) (l2) (l3) ((((kst (kst σ 1 (kif (sMay (σ 1) (l1) ((l8 / l7))) (sWalk (σ 1) (l1) ((l8 / l7))) (σ 1))) 1 (sCuts ((kst σ 1 (kif (sMay (σ 1) (l1) ((l8 / l7))) (sWalk (σ 1) (l1) ((l8 / l7))) (σ 1))) 1))) 1 7) % 12)) = l1 → (0 ≤ l7 ∧ l7 ≤ 2147483647) ∧ E_X12_flies_32 G l1 l2 l3 (l6 + 1) (l7 / 5) (l8 % l7) (kup (kst (kst σ 1 (kif (sMay (σ 1) (l1) ((l8 / l7))) (sWalk (σ 1) (l1) ((l8 / l7))) (σ 1))) 1 (sCuts ((kst σ 1 (kif (sMay (σ 1) (l1) ((l8 / l7))) (sWalk (σ 1) (l1) ((l8 / l7))) (σ 1))) 1))) 1 7 (((kst (kst σ 1 (kif (sMay (σ 1) (l1) ((l8 / l7))) (sWalk (σ 1) (l1) ((l8 / l7))) (σ 1))) 1 (sCuts ((kst σ 1 (kif (sMay (σ 1) (l1) ((l8 / l7))) (sWalk (σ 1) (l1) ((l8 / l7))) (σ 1))) 1))) 1 7) + 1)) Q))) ∧ (¬ (sMay (σ 1) (l1) ((l8 / l7))) → Q (-1) (kst σ 1 (kif (sMay (σ 1) (l1) ((l8 / l7))) (sWalk (σ 1) (l1) ((l8 / l7))) (σ 1)))))))) : E_X12_flies_32 G l1 l2 l3 l6 l7 l8 σ Q := by
  refine R_iload e_X12_flies_1.2.2.2.2.2.2.2.1 5 rfl ?_
  obtain ⟨q3, h⟩ := h
  refine R_if_le 108 e_X12_flies_1.2.2.2.2.2.2.2.2.1 (by decide) q3  (fun q => ?_) (fun q => ?_)
  · replace h := h.1 q
    refine R_iload e_X12_flies_6.2.2.1 4 rfl ?_
    exact R_ireturn e_X12_flies_6.2.2.2 rfl h
  · replace h := h.2 q
    refine R_aload_n e_X12_flies_1.2.2.2.2.2.2.2.2.2 0 rfl ?_
    refine R_iload_n e_X12_flies_2.1 1 rfl ?_
    refine R_iload e_X12_flies_2.2.1 6 rfl ?_
    refine R_iload e_X12_flies_2.2.2.1 5 rfl ?_
    obtain ⟨q4, h⟩ := h
    obtain ⟨q5, h⟩ := h
    refine R_idiv e_X12_flies_2.2.2.2.1 q4 q5 ?_
    obtain ⟨q8, h⟩ := h
    refine R_callV (mc := 0) (ms := 0) (mc' := 0) (ms' := 0) (M' := M_X12_walks) (d' := 2) (as := [vI l1, vI (l8 / l7)]) (st := []) 12 2 e_X12_flies_2.2.2.2.2.1 (kCVof m_X12_walks l_X12_402) rfl (by decide) km_0 (by decide) (by decide) rfl rfl (by show (0 : Nat) ≤ 8; decide) ?_
    refine Run.mono (P_X12_walks q8) (fun r s e => ?_)
    obtain ⟨e1, e2⟩ := e
    refine R_eqs (st2 := [vI (kb (sMay (σ 1) (l1) ((l8 / l7))))]) (σ2 := (kst σ 1 (kif (sMay (σ 1) (l1) ((l8 / l7))) (sWalk (σ 1) (l1) ((l8 / l7))) (σ 1)))) (by rw [e1]; rfl) e2 ?_
    refine R_if_ne 52 e_X12_flies_2.2.2.2.2.2.1 (by decide) (kb_r _) (fun q => ?_) (fun q => ?_)
    · replace h := h.1 (kb_t q)
      refine R_iload e_X12_flies_2.2.2.2.2.2.2.2.2.1 6 rfl ?_
      refine R_iload e_X12_flies_2.2.2.2.2.2.2.2.2.2 5 rfl ?_
      obtain ⟨q9, h⟩ := h
      obtain ⟨q10, h⟩ := h
      refine R_irem e_X12_flies_3.1 q9 q10 ?_
      refine R_istore (ls2 := [(8, vI (l8 % l7)), (0, vA G 0), (1, vI l1), (2, vI l2), (3, vI l3), (6, vI l6), (7, vI l7)]) e_X12_flies_3.2.1 (by decide) rfl ?_
      refine R_aload_n e_X12_flies_3.2.2.1 1 rfl ?_
      obtain ⟨q13, h⟩ := h
      refine R_callV (mc := 0) (ms := 0) (mc' := 0) (ms' := 0) (M' := M_X12_cuts) (d' := 7) (as := []) (st := []) 12 0 e_X12_flies_3.2.2.2.1 (kCVof m_X12_cuts l_X12_385) rfl (by decide) km_0 (by decide) (by decide) rfl rfl (by show (0 : Nat) ≤ 8; decide) ?_
      refine Run.mono (P_X12_cuts q13) (fun r s e => ?_)
      obtain ⟨e1, e2⟩ := e
      refine R_eqs (st2 := [vI (sDooms ((kst σ 1 (kif (sMay (σ 1) (l1) ((l8 / l7))) (sWalk (σ 1) (l1) ((l8 / l7))) (σ 1))) 1) : Int)]) (σ2 := (kst (kst σ 1 (kif (sMay (σ 1) (l1) ((l8 / l7))) (sWalk (σ 1) (l1) ((l8 / l7))) (σ 1))) 1 (sCuts ((kst σ 1 (kif (sMay (σ 1) (l1) ((l8 / l7))) (sWalk (σ 1) (l1) ((l8 / l7))) (σ 1))) 1)))) (by rw [e1]; rfl) e2 ?_
      refine R_pop e_X12_flies_3.2.2.2.2.1 rfl ?_
      refine R_iload e_X12_flies_3.2.2.2.2.2.1 5 rfl ?_
      refine R_aload_n e_X12_flies_3.2.2.2.2.2.2.1 1 rfl ?_
      refine R_iload_n e_X12_flies_3.2.2.2.2.2.2.2.1 3 rfl ?_
      refine R_iload_n e_X12_flies_3.2.2.2.2.2.2.2.2.1 4 rfl ?_
      refine R_aload_n e_X12_flies_3.2.2.2.2.2.2.2.2.2 1 rfl ?_
      refine R_callV (mc := 0) (ms := 0) (mc' := 0) (ms' := 0) (M' := M_X12_now) (d' := 0) (as := []) (st := [vI l3, vI l2, vA G 0, vI l6]) 12 0 e_X12_flies_4.1 (kCVof m_X12_now l_X12_325) rfl (by decide) km_0 (by decide) (by decide) rfl rfl (by show (4 : Nat) ≤ 8; decide) ?_
      obtain ⟨q16, h⟩ := h
      refine S_X12_now ⟨q16, ?_⟩
      refine R_eqs (st2 := [vI (((kst (kst σ 1 (kif (sMay (σ 1) (l1) ((l8 / l7))) (sWalk (σ 1) (l1) ((l8 / l7))) (σ 1))) 1 (sCuts ((kst σ 1 (kif (sMay (σ 1) (l1) ((l8 / l7))) (sWalk (σ 1) (l1) ((l8 / l7))) (σ 1))) 1))) 1 7) % 12), vI l3, vI l2, vA G 0, vI l6]) (σ2 := (kst (kst σ 1 (kif (sMay (σ 1) (l1) ((l8 / l7))) (sWalk (σ 1) (l1) ((l8 / l7))) (σ 1))) 1 (sCuts ((kst σ 1 (kif (sMay (σ 1) (l1) ((l8 / l7))) (sWalk (σ 1) (l1) ((l8 / l7))) (σ 1))) 1)))) rfl rfl ?_
      obtain ⟨q19, h⟩ := h
      refine R_callV (mc := 0) (ms := 0) (mc' := 0) (ms' := 0) (M' := M_X12_ownerOf) (d' := 6) (as := [vI l2, vI l3, vI (((kst (kst σ 1 (kif (sMay (σ 1) (l1) ((l8 / l7))) (sWalk (σ 1) (l1) ((l8 / l7))) (σ 1))) 1 (sCuts ((kst σ 1 (kif (sMay (σ 1) (l1) ((l8 / l7))) (sWalk (σ 1) (l1) ((l8 / l7))) (σ 1))) 1))) 1 7) % 12)]) (st := [vI l6]) 12 3 e_X12_flies_4.2.1 (kCVof m_X12_ownerOf l_X12_312) rfl (by decide) km_0 (by decide) (by decide) rfl rfl (by show (1 : Nat) ≤ 8; decide) ?_
      refine Run.mono (P_X12_ownerOf q19) (fun r s e => ?_)
      obtain ⟨e1, e2⟩ := e
      refine R_eqs (st2 := [vI (sOwn ((kst (kst σ 1 (kif (sMay (σ 1) (l1) ((l8 / l7))) (sWalk (σ 1) (l1) ((l8 / l7))) (σ 1))) 1 (sCuts ((kst σ 1 (kif (sMay (σ 1) (l1) ((l8 / l7))) (sWalk (σ 1) (l1) ((l8 / l7))) (σ 1))) 1))) 1) (l2) (l3) ((((kst (kst σ 1 (kif (sMay (σ 1) (l1) ((l8 / l7))) (sWalk (σ 1) (l1) ((l8 / l7))) (σ 1))) 1 (sCuts ((kst σ 1 (kif (sMay (σ 1) (l1) ((l8 / l7))) (sWalk (σ 1) (l1) ((l8 / l7))) (σ 1))) 1))) 1 7) % 12))), vI l6]) (σ2 := (kst (kst σ 1 (kif (sMay (σ 1) (l1) ((l8 / l7))) (sWalk (σ 1) (l1) ((l8 / l7))) (σ 1))) 1 (sCuts ((kst σ 1 (kif (sMay (σ 1) (l1) ((l8 / l7))) (sWalk (σ 1) (l1) ((l8 / l7))) (σ 1))) 1)))) (by rw [e1]; rfl) e2 ?_
      refine R_iload_n e_X12_flies_4.2.2.1 2 rfl ?_
      obtain ⟨q20, h⟩ := h
      obtain ⟨q21, h⟩ := h
      refine R_icmp_ne 84 e_X12_flies_4.2.2.2.1 (by decide) q20 q21 (fun q => ?_) (fun q => ?_)
      · replace h := h.1 q
        refine R_iconst e_X12_flies_4.2.2.2.2.2.2.1 ?_
        refine R_iadd e_X12_flies_4.2.2.2.2.2.2.2.1 ?_
        refine R_istore (ls2 := [(6, vI (l6 + 0)), (8, vI (l8 % l7)), (0, vA G 0), (1, vI l1), (2, vI l2), (3, vI l3), (7, vI l7)]) e_X12_flies_4.2.2.2.2.2.2.2.2.1 (by decide) rfl ?_
        refine R_aload_n e_X12_flies_4.2.2.2.2.2.2.2.2.2 2 rfl ?_
        refine R_getA 12 0 1 e_X12_flies_5.1 f_X12_7 km_0 (fun _ _ => rfl) rm_0_0 (by decide) ?_
        refine R_bipush e_X12_flies_5.2.1 (by decide) ?_
        refine R_dup2 e_X12_flies_5.2.2.1 rfl rfl ?_
        refine R_iald 3598 e_X12_flies_5.2.2.2.1 kma_1 (by decide) ?_
        refine R_iconst e_X12_flies_5.2.2.2.2.1 ?_
        refine R_iadd e_X12_flies_5.2.2.2.2.2.1 ?_
        refine R_iast 3598 WM_ok e_X12_flies_5.2.2.2.2.2.2.1 kma_1 (by decide) ?_
        refine R_iload e_X12_flies_5.2.2.2.2.2.2.2.1 6 rfl ?_
        refine R_iconst e_X12_flies_5.2.2.2.2.2.2.2.2.1 ?_
        obtain ⟨q22, h⟩ := h
        refine R_idiv e_X12_flies_5.2.2.2.2.2.2.2.2.2 q22 (by decide) ?_
        refine R_istore (ls2 := [(7, vI (l7 / 5)), (6, vI (l6 + 0)), (8, vI (l8 % l7)), (0, vA G 0), (1, vI l1), (2, vI l2), (3, vI l3)]) e_X12_flies_6.1 (by decide) rfl ?_
        refine R_goto 32 e_X12_flies_6.2.1 (by decide) ?_
        refine R_ls (ls2 := [(0, vA G 0), (1, vI l1), (2, vI l2), (3, vI l3), (6, vI (l6 + 0)), (7, vI (l7 / 5)), (8, vI (l8 % l7))]) [3, 4, 5, 6, 1, 0, 2] rfl ?_
        exact h
      · replace h := h.2 q
        refine R_iconst e_X12_flies_4.2.2.2.2.1 ?_
        refine R_goto 85 e_X12_flies_4.2.2.2.2.2.1 (by decide) ?_
        refine R_iadd e_X12_flies_4.2.2.2.2.2.2.2.1 ?_
        refine R_istore (ls2 := [(6, vI (l6 + 1)), (8, vI (l8 % l7)), (0, vA G 0), (1, vI l1), (2, vI l2), (3, vI l3), (7, vI l7)]) e_X12_flies_4.2.2.2.2.2.2.2.2.1 (by decide) rfl ?_
        refine R_aload_n e_X12_flies_4.2.2.2.2.2.2.2.2.2 2 rfl ?_
        refine R_getA 12 0 1 e_X12_flies_5.1 f_X12_7 km_0 (fun _ _ => rfl) rm_0_0 (by decide) ?_
        refine R_bipush e_X12_flies_5.2.1 (by decide) ?_
        refine R_dup2 e_X12_flies_5.2.2.1 rfl rfl ?_
        refine R_iald 3598 e_X12_flies_5.2.2.2.1 kma_1 (by decide) ?_
        refine R_iconst e_X12_flies_5.2.2.2.2.1 ?_
        refine R_iadd e_X12_flies_5.2.2.2.2.2.1 ?_
        refine R_iast 3598 WM_ok e_X12_flies_5.2.2.2.2.2.2.1 kma_1 (by decide) ?_
        refine R_iload e_X12_flies_5.2.2.2.2.2.2.2.1 6 rfl ?_
        refine R_iconst e_X12_flies_5.2.2.2.2.2.2.2.2.1 ?_
        obtain ⟨q23, h⟩ := h
        refine R_idiv e_X12_flies_5.2.2.2.2.2.2.2.2.2 q23 (by decide) ?_
        refine R_istore (ls2 := [(7, vI (l7 / 5)), (6, vI (l6 + 1)), (8, vI (l8 % l7)), (0, vA G 0), (1, vI l1), (2, vI l2), (3, vI l3)]) e_X12_flies_6.1 (by decide) rfl ?_
        refine R_goto 32 e_X12_flies_6.2.1 (by decide) ?_
        refine R_ls (ls2 := [(0, vA G 0), (1, vI l1), (2, vI l2), (3, vI l3), (6, vI (l6 + 1)), (7, vI (l7 / 5)), (8, vI (l8 % l7))]) [3, 4, 5, 6, 1, 0, 2] rfl ?_
        exact h
    · replace h := h.2 (kb_f q)
      refine R_iconst e_X12_flies_2.2.2.2.2.2.2.1 ?_
      exact R_ireturn e_X12_flies_2.2.2.2.2.2.2.2.1 rfl h
/-! KiteLandModel.fly(IIII)I -/
theorem e_X12_fly_0 : decode cX12_fly 0 = .ok (.aload_n 0, 1) ∧ decode cX12_fly 1 = .ok (.iload_n 1, 1) ∧ decode cX12_fly 2 = .ok (.invokevirtual 343, 3) ∧ decode cX12_fly 5 = .ok (.ifCond .eq 25, 3) ∧ decode cX12_fly 8 = .ok (.aload_n 0, 1) ∧ decode cX12_fly 9 = .ok (.iload_n 2, 1) ∧ decode cX12_fly 10 = .ok (.iload_n 3, 1) ∧ decode cX12_fly 11 = .ok (.invokevirtual 355, 3) ∧ decode cX12_fly 14 = .ok (.ifCond .eq 16, 3) ∧ decode cX12_fly 17 = .ok (.iload 4, 2) := by decide +kernel
theorem e_X12_fly_1 : decode cX12_fly 19 = .ok (.i2l, 1) ∧ decode cX12_fly 20 = .ok (.lconst 1, 1) ∧ decode cX12_fly 21 = .ok (.ldc2_w 440, 3) ∧ decode cX12_fly 24 = .ok (.invokestatic 393, 3) ∧ decode cX12_fly 27 = .ok (.ifCond .ne 9, 3) ∧ decode cX12_fly 30 = .ok (.aload_n 0, 1) ∧ decode cX12_fly 31 = .ok (.iconst 1, 1) ∧ decode cX12_fly 32 = .ok (.invokevirtual 93, 3) ∧ decode cX12_fly 35 = .ok (.ireturn, 1) ∧ decode cX12_fly 36 = .ok (.iconst 1, 1) := by decide +kernel
theorem e_X12_fly_2 : decode cX12_fly 37 = .ok (.istore 5, 2) ∧ decode cX12_fly 39 = .ok (.iconst 0, 1) ∧ decode cX12_fly 40 = .ok (.istore 6, 2) ∧ decode cX12_fly 42 = .ok (.iload 6, 2) ∧ decode cX12_fly 44 = .ok (.iload 4, 2) ∧ decode cX12_fly 46 = .ok (.if_icmp .ge 15, 3) ∧ decode cX12_fly 49 = .ok (.iload 5, 2) ∧ decode cX12_fly 51 = .ok (.iconst 5, 1) ∧ decode cX12_fly 52 = .ok (.imul, 1) ∧ decode cX12_fly 53 = .ok (.istore 5, 2) := by decide +kernel
theorem e_X12_fly_3 : decode cX12_fly 55 = .ok (.iinc 6 1, 3) ∧ decode cX12_fly 58 = .ok (.goto (-16), 3) ∧ decode cX12_fly 61 = .ok (.iconst (-1), 1) ∧ decode cX12_fly 62 = .ok (.istore 6, 2) ∧ decode cX12_fly 64 = .ok (.iconst 0, 1) ∧ decode cX12_fly 65 = .ok (.istore 7, 2) ∧ decode cX12_fly 67 = .ok (.aload_n 0, 1) ∧ decode cX12_fly 68 = .ok (.sipush 3084, 3) ∧ decode cX12_fly 71 = .ok (.invokevirtual 419, 3) ∧ decode cX12_fly 74 = .ok (.iconst 0, 1) := by decide +kernel
theorem e_X12_fly_4 : decode cX12_fly 75 = .ok (.istore 8, 2) ∧ decode cX12_fly 77 = .ok (.iload 8, 2) ∧ decode cX12_fly 79 = .ok (.iload 5, 2) ∧ decode cX12_fly 81 = .ok (.if_icmp .ge 47, 3) ∧ decode cX12_fly 84 = .ok (.aload_n 0, 1) ∧ decode cX12_fly 85 = .ok (.iload_n 1, 1) ∧ decode cX12_fly 86 = .ok (.iload_n 2, 1) ∧ decode cX12_fly 87 = .ok (.iload_n 3, 1) ∧ decode cX12_fly 88 = .ok (.iload 4, 2) ∧ decode cX12_fly 90 = .ok (.iload 8, 2) := by decide +kernel
theorem e_X12_fly_5 : decode cX12_fly 92 = .ok (.invokevirtual 442, 3) ∧ decode cX12_fly 95 = .ok (.istore 9, 2) ∧ decode cX12_fly 97 = .ok (.aload_n 0, 1) ∧ decode cX12_fly 98 = .ok (.sipush 3084, 3) ∧ decode cX12_fly 101 = .ok (.invokevirtual 422, 3) ∧ decode cX12_fly 104 = .ok (.iload 9, 2) ∧ decode cX12_fly 106 = .ok (.iload 6, 2) ∧ decode cX12_fly 108 = .ok (.if_icmp .gt 6, 3) ∧ decode cX12_fly 111 = .ok (.goto 11, 3) ∧ decode cX12_fly 114 = .ok (.iload 9, 2) := by decide +kernel
theorem e_X12_fly_6 : decode cX12_fly 116 = .ok (.istore 6, 2) ∧ decode cX12_fly 118 = .ok (.iload 8, 2) ∧ decode cX12_fly 120 = .ok (.istore 7, 2) ∧ decode cX12_fly 122 = .ok (.iinc 8 1, 3) ∧ decode cX12_fly 125 = .ok (.goto (-48), 3) ∧ decode cX12_fly 128 = .ok (.aload_n 0, 1) ∧ decode cX12_fly 129 = .ok (.iload 4, 2) ∧ decode cX12_fly 131 = .ok (.putfield 446, 3) ∧ decode cX12_fly 134 = .ok (.iload 4, 2) ∧ decode cX12_fly 136 = .ok (.iconst 1, 1) := by decide +kernel
theorem e_X12_fly_7 : decode cX12_fly 137 = .ok (.isub, 1) ∧ decode cX12_fly 138 = .ok (.istore 8, 2) ∧ decode cX12_fly 140 = .ok (.iload 8, 2) ∧ decode cX12_fly 142 = .ok (.ifCond .lt 26, 3) ∧ decode cX12_fly 145 = .ok (.aload_n 0, 1) ∧ decode cX12_fly 146 = .ok (.getfield 50, 3) ∧ decode cX12_fly 149 = .ok (.iload 8, 2) ∧ decode cX12_fly 151 = .ok (.iload 7, 2) ∧ decode cX12_fly 153 = .ok (.iconst 5, 1) ∧ decode cX12_fly 154 = .ok (.irem, 1) := by decide +kernel
theorem e_X12_fly_8 : decode cX12_fly 155 = .ok (.iastore, 1) ∧ decode cX12_fly 156 = .ok (.iload 7, 2) ∧ decode cX12_fly 158 = .ok (.iconst 5, 1) ∧ decode cX12_fly 159 = .ok (.idiv, 1) ∧ decode cX12_fly 160 = .ok (.istore 7, 2) ∧ decode cX12_fly 162 = .ok (.iinc 8 (-1), 3) ∧ decode cX12_fly 165 = .ok (.goto (-25), 3) ∧ decode cX12_fly 168 = .ok (.aload_n 0, 1) ∧ decode cX12_fly 169 = .ok (.iload 6, 2) ∧ decode cX12_fly 171 = .ok (.invokevirtual 97, 3) := by decide +kernel
theorem e_X12_fly_9 : decode cX12_fly 174 = .ok (.ireturn, 1) := by decide +kernel
abbrev E_X12_fly_42 (G : Kg) (l1 l2 l3 l4 l5 l6 : Int) (σ : Kmem) (Q : Int → Kmem → Prop) : Prop := Ex G WM M_X12_fly 9 0 0 42 [(0, vA G 0), (1, vI l1), (2, vI l2), (3, vI l3), (4, vI l4), (5, vI l5), (6, vI l6)] [] σ Q
abbrev E_X12_fly_77 (G : Kg) (l1 l2 l3 l4 l5 l6 l7 l8 : Int) (σ : Kmem) (Q : Int → Kmem → Prop) : Prop := Ex G WM M_X12_fly 9 0 0 77 [(0, vA G 0), (1, vI l1), (2, vI l2), (3, vI l3), (4, vI l4), (5, vI l5), (6, vI l6), (7, vI l7), (8, vI l8)] [] σ Q
abbrev E_X12_fly_140 (G : Kg) (l6 l7 l8 : Int) (σ : Kmem) (Q : Int → Kmem → Prop) : Prop := Ex G WM M_X12_fly 9 0 0 140 [(0, vA G 0), (6, vI l6), (7, vI l7), (8, vI l8)] [] σ Q
theorem S_X12_fly {G : Kg} {σ : Kmem} {Q : Int → Kmem → Prop} {l1 l2 l3 l4 : Int}  (h : (rI l1 ∧ wf (σ 1)) ∧ ((¬ (sKt (σ 1) (l1)) → Q (-1) (kup σ 0 2 1)) ∧ ((sKt (σ 1) (l1)) → ((rI (l2) ∧ rI (l3)) ∧ wf (σ 1)) ∧ ((¬ (sFld (σ 1) (l2) (l3)) → Q (-1) (kup σ 0 2 1)) ∧ ((sFld (σ 1) (l2) (l3)) → (rI l4) ∧ (rL l4 ∧ rL 1 ∧ rL 5) ∧ ((((1 : Int) ≤ l4 ∧ (l4 : Int) ≤ 5) → E_X12_fly_42 G l1 l2 l3 l4 1 0 σ Q) ∧ (¬ ((1 : Int) ≤ l4 ∧ (l4 : Int) ≤ 5) → Q (-1) (kup σ 0 2 1)))))))) : Run G WM M_X12_fly 9 0 0 [vA G 0, vI l1, vI l2, vI l3, vI l4] σ Q := by
  refine Run.of (by decide +kernel) (by show (5 : Nat) ≤ 10; decide) ?_
  show Ex G WM M_X12_fly 9 0 0 0 [(0, vA G 0), (1, vI l1), (2, vI l2), (3, vI l3), (4, vI l4)] [] σ Q
  refine R_aload_n e_X12_fly_0.1 0 rfl ?_
  refine R_iload_n e_X12_fly_0.2.1 1 rfl ?_
  obtain ⟨q3, h⟩ := h
  refine R_callV (mc := 0) (ms := 0) (mc' := 0) (ms' := 0) (M' := M_X12_isKite) (d' := 0) (as := [vI l1]) (st := []) 12 1 e_X12_fly_0.2.2.1 (kCVof m_X12_isKite l_X12_343) rfl (by decide) km_0 (by decide) (by decide) rfl rfl (by show (0 : Nat) ≤ 8; decide) ?_
  refine Run.mono (P_X12_isKite q3) (fun r s e => ?_)
  obtain ⟨e1, e2⟩ := e
  refine R_eqs (st2 := [vI (kb (sKt (σ 1) (l1)))]) (σ2 := σ) (by rw [e1]; rfl) e2 ?_
  refine R_if_eq 30 e_X12_fly_0.2.2.2.1 (by decide) (kb_r _) (fun q => ?_) (fun q => ?_)
  · replace h := h.1 (kb_f q)
    refine R_aload_n e_X12_fly_1.2.2.2.2.2.1 0 rfl ?_
    refine R_iconst e_X12_fly_1.2.2.2.2.2.2.1 ?_
    refine R_callV (mc := 0) (ms := 0) (mc' := 0) (ms' := 0) (M' := M_X12_refuse) (d' := 0) (as := [vI 1]) (st := []) 12 1 e_X12_fly_1.2.2.2.2.2.2.2.1 (kCVof m_X12_refuse l_X12_93) rfl (by decide) km_0 (by decide) (by decide) rfl rfl (by show (0 : Nat) ≤ 8; decide) ?_
    refine S_X12_refuse ?_
    refine R_eqs (st2 := [vI (-1)]) (σ2 := (kup σ 0 2 1)) rfl rfl ?_
    exact R_ireturn e_X12_fly_1.2.2.2.2.2.2.2.2.1 rfl h
  · replace h := h.2 (kb_t q)
    refine R_aload_n e_X12_fly_0.2.2.2.2.1 0 rfl ?_
    refine R_iload_n e_X12_fly_0.2.2.2.2.2.1 2 rfl ?_
    refine R_iload_n e_X12_fly_0.2.2.2.2.2.2.1 3 rfl ?_
    obtain ⟨q8, h⟩ := h
    refine R_callV (mc := 0) (ms := 0) (mc' := 0) (ms' := 0) (M' := M_X12_isField) (d' := 0) (as := [vI l2, vI l3]) (st := []) 12 2 e_X12_fly_0.2.2.2.2.2.2.2.1 (kCVof m_X12_isField l_X12_355) rfl (by decide) km_0 (by decide) (by decide) rfl rfl (by show (0 : Nat) ≤ 8; decide) ?_
    refine Run.mono (P_X12_isField q8) (fun r s e => ?_)
    obtain ⟨e1, e2⟩ := e
    refine R_eqs (st2 := [vI (kb (sFld (σ 1) (l2) (l3)))]) (σ2 := σ) (by rw [e1]; rfl) e2 ?_
    refine R_if_eq 30 e_X12_fly_0.2.2.2.2.2.2.2.2.1 (by decide) (kb_r _) (fun q => ?_) (fun q => ?_)
    · replace h := h.1 (kb_f q)
      refine R_aload_n e_X12_fly_1.2.2.2.2.2.1 0 rfl ?_
      refine R_iconst e_X12_fly_1.2.2.2.2.2.2.1 ?_
      refine R_callV (mc := 0) (ms := 0) (mc' := 0) (ms' := 0) (M' := M_X12_refuse) (d' := 0) (as := [vI 1]) (st := []) 12 1 e_X12_fly_1.2.2.2.2.2.2.2.1 (kCVof m_X12_refuse l_X12_93) rfl (by decide) km_0 (by decide) (by decide) rfl rfl (by show (0 : Nat) ≤ 8; decide) ?_
      refine S_X12_refuse ?_
      refine R_eqs (st2 := [vI (-1)]) (σ2 := (kup σ 0 2 1)) rfl rfl ?_
      exact R_ireturn e_X12_fly_1.2.2.2.2.2.2.2.2.1 rfl h
    · replace h := h.2 (kb_t q)
      refine R_iload e_X12_fly_0.2.2.2.2.2.2.2.2.2 4 rfl ?_
      obtain ⟨q11, h⟩ := h
      refine R_i2l e_X12_fly_1.1 q11 ?_
      refine R_lconst 1 e_X12_fly_1.2.1 (by decide) ?_
      refine R_ldc2 (5) k_X12_440 e_X12_fly_1.2.2.1 ?_
      obtain ⟨q14, h⟩ := h
      refine R_callS (mc := 0) (ms := 0) (mc' := 0) (ms' := 0) (M' := M_X12_isFrom) (d' := 0) (as := [vL l4, vL 1, vL 5]) (st := []) 3 e_X12_fly_1.2.2.2.1 (kCSof m_X12_isFrom l_X12_393) (by decide) (by decide) rfl rfl (by show (0 : Nat) ≤ 8; decide) ?_
      refine Run.mono (P_X12_isFrom q14) (fun r s e => ?_)
      obtain ⟨e1, e2⟩ := e
      refine R_eqs (st2 := [vI (kb ((1 : Int) ≤ l4 ∧ (l4 : Int) ≤ 5))]) (σ2 := σ) (by rw [e1]; rfl) e2 ?_
      refine R_if_ne 36 e_X12_fly_1.2.2.2.2.1 (by decide) (kb_r _) (fun q => ?_) (fun q => ?_)
      · replace h := h.1 (kb_t q)
        refine R_iconst e_X12_fly_1.2.2.2.2.2.2.2.2.2 ?_
        refine R_istore (ls2 := [(5, vI 1), (0, vA G 0), (1, vI l1), (2, vI l2), (3, vI l3), (4, vI l4)]) e_X12_fly_2.1 (by decide) rfl ?_
        refine R_iconst e_X12_fly_2.2.1 ?_
        refine R_istore (ls2 := [(6, vI 0), (5, vI 1), (0, vA G 0), (1, vI l1), (2, vI l2), (3, vI l3), (4, vI l4)]) e_X12_fly_2.2.2.1 (by decide) rfl ?_
        refine R_ls (ls2 := [(0, vA G 0), (1, vI l1), (2, vI l2), (3, vI l3), (4, vI l4), (5, vI 1), (6, vI 0)]) [2, 3, 4, 5, 6, 1, 0] rfl ?_
        exact h
      · replace h := h.2 (kb_f q)
        refine R_aload_n e_X12_fly_1.2.2.2.2.2.1 0 rfl ?_
        refine R_iconst e_X12_fly_1.2.2.2.2.2.2.1 ?_
        refine R_callV (mc := 0) (ms := 0) (mc' := 0) (ms' := 0) (M' := M_X12_refuse) (d' := 0) (as := [vI 1]) (st := []) 12 1 e_X12_fly_1.2.2.2.2.2.2.2.1 (kCVof m_X12_refuse l_X12_93) rfl (by decide) km_0 (by decide) (by decide) rfl rfl (by show (0 : Nat) ≤ 8; decide) ?_
        refine S_X12_refuse ?_
        refine R_eqs (st2 := [vI (-1)]) (σ2 := (kup σ 0 2 1)) rfl rfl ?_
        exact R_ireturn e_X12_fly_1.2.2.2.2.2.2.2.2.1 rfl h
theorem S_X12_fly_42 {G : Kg} {σ : Kmem} {Q : Int → Kmem → Prop} {l1 l2 l3 l4 l5 l6 : Int}  (h : (rI l6) ∧ (rI l4) ∧ ((l4 ≤ l6 → ((150 : Int) ≤ 3084 ∧ (3084 : Int) ≤ 3448) ∧ E_X12_fly_77 G l1 l2 l3 l4 l5 (-1) 0 0 (kst σ 1 (sKeep (σ 1) (3084))) Q) ∧ (l6 < l4 → E_X12_fly_42 G l1 l2 l3 l4 (l5 * 5) (l6 + 1) σ Q))) : E_X12_fly_42 G l1 l2 l3 l4 l5 l6 σ Q := by
  refine R_iload e_X12_fly_2.2.2.2.1 6 rfl ?_
  refine R_iload e_X12_fly_2.2.2.2.2.1 4 rfl ?_
  obtain ⟨q17, h⟩ := h
  obtain ⟨q18, h⟩ := h
  refine R_icmp_ge 61 e_X12_fly_2.2.2.2.2.2.1 (by decide) q17 q18 (fun q => ?_) (fun q => ?_)
  · replace h := h.1 q
    refine R_iconst e_X12_fly_3.2.2.1 ?_
    refine R_istore (ls2 := [(6, vI (-1)), (0, vA G 0), (1, vI l1), (2, vI l2), (3, vI l3), (4, vI l4), (5, vI l5)]) e_X12_fly_3.2.2.2.1 (by decide) rfl ?_
    refine R_iconst e_X12_fly_3.2.2.2.2.1 ?_
    refine R_istore (ls2 := [(7, vI 0), (6, vI (-1)), (0, vA G 0), (1, vI l1), (2, vI l2), (3, vI l3), (4, vI l4), (5, vI l5)]) e_X12_fly_3.2.2.2.2.2.1 (by decide) rfl ?_
    refine R_aload_n e_X12_fly_3.2.2.2.2.2.2.1 2 rfl ?_
    refine R_sipush e_X12_fly_3.2.2.2.2.2.2.2.1 (by decide) ?_
    obtain ⟨q21, h⟩ := h
    refine R_callV (mc := 0) (ms := 0) (mc' := 0) (ms' := 0) (M' := M_X12_keeps) (d' := 0) (as := [vI 3084]) (st := []) 12 1 e_X12_fly_3.2.2.2.2.2.2.2.2.1 (kCVof m_X12_keeps l_X12_419) rfl (by decide) km_0 (by decide) (by decide) rfl rfl (by show (0 : Nat) ≤ 8; decide) ?_
    refine Run.mono (P_X12_keeps q21) (fun r s e => ?_)
    obtain ⟨e1, e2⟩ := e
    refine R_eqs (st2 := []) (σ2 := (kst σ 1 (sKeep (σ 1) (3084)))) (by rfl) e2 ?_
    refine R_iconst e_X12_fly_3.2.2.2.2.2.2.2.2.2 ?_
    refine R_istore (ls2 := [(8, vI 0), (7, vI 0), (6, vI (-1)), (0, vA G 0), (1, vI l1), (2, vI l2), (3, vI l3), (4, vI l4), (5, vI l5)]) e_X12_fly_4.1 (by decide) rfl ?_
    refine R_ls (ls2 := [(0, vA G 0), (1, vI l1), (2, vI l2), (3, vI l3), (4, vI l4), (5, vI l5), (6, vI (-1)), (7, vI 0), (8, vI 0)]) [3, 4, 5, 6, 7, 8, 2, 1, 0] rfl ?_
    exact h
  · replace h := h.2 q
    refine R_iload e_X12_fly_2.2.2.2.2.2.2.1 5 rfl ?_
    refine R_iconst e_X12_fly_2.2.2.2.2.2.2.2.1 ?_
    refine R_imul e_X12_fly_2.2.2.2.2.2.2.2.2.1 ?_
    refine R_istore (ls2 := [(5, vI (l5 * 5)), (0, vA G 0), (1, vI l1), (2, vI l2), (3, vI l3), (4, vI l4), (6, vI l6)]) e_X12_fly_2.2.2.2.2.2.2.2.2.2 (by decide) rfl ?_
    refine R_iinc (ls2 := [(6, vI (l6 + 1)), (5, vI (l5 * 5)), (0, vA G 0), (1, vI l1), (2, vI l2), (3, vI l3), (4, vI l4)]) e_X12_fly_3.1 6 rfl (by decide) rfl ?_
    refine R_goto 42 e_X12_fly_3.2.1 (by decide) ?_
    refine R_ls (ls2 := [(0, vA G 0), (1, vI l1), (2, vI l2), (3, vI l3), (4, vI l4), (5, vI (l5 * 5)), (6, vI (l6 + 1))]) [2, 3, 4, 5, 6, 1, 0] rfl ?_
    exact h
theorem S_X12_fly_77 {G : Kg} {σ : Kmem} {Q : Int → Kmem → Prop} {l1 l2 l3 l4 l5 l6 l7 l8 : Int}  (h : (rI l8) ∧ (rI l5) ∧ ((l5 ≤ l8 → E_X12_fly_140 G l6 l7 (l4 - 1) (kup σ 0 26 l4) Q) ∧ (l8 < l5 → Run G WM M_X12_flies 8 0 0 [vA G 0, vI l1, vI l2, vI l3, vI l4, vI l8] σ (fun r24 s25 => ((150 : Int) ≤ 3084 ∧ (3084 : Int) ≤ 3448) ∧ (rI r24) ∧ (rI l6) ∧ ((l6 < r24 → E_X12_fly_77 G l1 l2 l3 l4 l5 r24 l8 (l8 + 1) (kst s25 1 (sRest (s25 1) (3084))) Q) ∧ (r24 ≤ l6 → E_X12_fly_77 G l1 l2 l3 l4 l5 l6 l7 (l8 + 1) (kst s25 1 (sRest (s25 1) (3084))) Q)))))) : E_X12_fly_77 G l1 l2 l3 l4 l5 l6 l7 l8 σ Q := by
  refine R_iload e_X12_fly_4.2.1 8 rfl ?_
  refine R_iload e_X12_fly_4.2.2.1 5 rfl ?_
  obtain ⟨q22, h⟩ := h
  obtain ⟨q23, h⟩ := h
  refine R_icmp_ge 128 e_X12_fly_4.2.2.2.1 (by decide) q22 q23 (fun q => ?_) (fun q => ?_)
  · replace h := h.1 q
    refine R_aload_n e_X12_fly_6.2.2.2.2.2.1 0 rfl ?_
    refine R_iload e_X12_fly_6.2.2.2.2.2.2.1 4 rfl ?_
    refine R_putI 12 26 26 WM_ok e_X12_fly_6.2.2.2.2.2.2.2.1 f_X12_446 km_0 rfl rfl rfl ?_
    refine R_iload e_X12_fly_6.2.2.2.2.2.2.2.2.1 4 rfl ?_
    refine R_iconst e_X12_fly_6.2.2.2.2.2.2.2.2.2 ?_
    refine R_isub e_X12_fly_7.1 ?_
    refine R_istore (ls2 := [(8, vI (l4 - 1)), (0, vA G 0), (1, vI l1), (2, vI l2), (3, vI l3), (4, vI l4), (5, vI l5), (6, vI l6), (7, vI l7)]) e_X12_fly_7.2.1 (by decide) rfl ?_
    refine R_ls (ls2 := [(0, vA G 0), (6, vI l6), (7, vI l7), (8, vI (l4 - 1))]) [1, 7, 8, 0] rfl ?_
    exact h
  · replace h := h.2 q
    refine R_aload_n e_X12_fly_4.2.2.2.2.1 0 rfl ?_
    refine R_iload_n e_X12_fly_4.2.2.2.2.2.1 1 rfl ?_
    refine R_iload_n e_X12_fly_4.2.2.2.2.2.2.1 2 rfl ?_
    refine R_iload_n e_X12_fly_4.2.2.2.2.2.2.2.1 3 rfl ?_
    refine R_iload e_X12_fly_4.2.2.2.2.2.2.2.2.1 4 rfl ?_
    refine R_iload e_X12_fly_4.2.2.2.2.2.2.2.2.2 8 rfl ?_
    refine R_callV (mc := 0) (ms := 0) (mc' := 0) (ms' := 0) (M' := M_X12_flies) (d' := 8) (as := [vI l1, vI l2, vI l3, vI l4, vI l8]) (st := []) 12 5 e_X12_fly_5.1 (kCVof m_X12_flies l_X12_442) rfl (by decide) km_0 (by decide) (by decide) rfl rfl (by show (0 : Nat) ≤ 8; decide) ?_
    refine Run.mono h (fun r24 s25 h => ?_)
    refine R_eqs (st2 := [vI r24]) rfl rfl ?_
    refine R_istore (ls2 := [(9, vI r24), (0, vA G 0), (1, vI l1), (2, vI l2), (3, vI l3), (4, vI l4), (5, vI l5), (6, vI l6), (7, vI l7), (8, vI l8)]) e_X12_fly_5.2.1 (by decide) rfl ?_
    refine R_aload_n e_X12_fly_5.2.2.1 1 rfl ?_
    refine R_sipush e_X12_fly_5.2.2.2.1 (by decide) ?_
    obtain ⟨q28, h⟩ := h
    refine R_callV (mc := 0) (ms := 0) (mc' := 0) (ms' := 0) (M' := M_X12_restores) (d' := 0) (as := [vI 3084]) (st := []) 12 1 e_X12_fly_5.2.2.2.2.1 (kCVof m_X12_restores l_X12_422) rfl (by decide) km_0 (by decide) (by decide) rfl rfl (by show (0 : Nat) ≤ 8; decide) ?_
    refine Run.mono (P_X12_restores q28) (fun r s e => ?_)
    obtain ⟨e1, e2⟩ := e
    refine R_eqs (st2 := []) (σ2 := (kst s25 1 (sRest (s25 1) (3084)))) (by rfl) e2 ?_
    refine R_iload e_X12_fly_5.2.2.2.2.2.1 0 rfl ?_
    refine R_iload e_X12_fly_5.2.2.2.2.2.2.1 7 rfl ?_
    obtain ⟨q29, h⟩ := h
    obtain ⟨q30, h⟩ := h
    refine R_icmp_gt 114 e_X12_fly_5.2.2.2.2.2.2.2.1 (by decide) q29 q30 (fun q => ?_) (fun q => ?_)
    · replace h := h.1 q
      refine R_iload e_X12_fly_5.2.2.2.2.2.2.2.2.2 0 rfl ?_
      refine R_istore (ls2 := [(6, vI r24), (9, vI r24), (0, vA G 0), (1, vI l1), (2, vI l2), (3, vI l3), (4, vI l4), (5, vI l5), (7, vI l7), (8, vI l8)]) e_X12_fly_6.1 (by decide) rfl ?_
      refine R_iload e_X12_fly_6.2.1 9 rfl ?_
      refine R_istore (ls2 := [(7, vI l8), (6, vI r24), (9, vI r24), (0, vA G 0), (1, vI l1), (2, vI l2), (3, vI l3), (4, vI l4), (5, vI l5), (8, vI l8)]) e_X12_fly_6.2.2.1 (by decide) rfl ?_
      refine R_iinc (ls2 := [(8, vI (l8 + 1)), (7, vI l8), (6, vI r24), (9, vI r24), (0, vA G 0), (1, vI l1), (2, vI l2), (3, vI l3), (4, vI l4), (5, vI l5)]) e_X12_fly_6.2.2.2.1 9 rfl (by decide) rfl ?_
      refine R_goto 77 e_X12_fly_6.2.2.2.2.1 (by decide) ?_
      refine R_ls (ls2 := [(0, vA G 0), (1, vI l1), (2, vI l2), (3, vI l3), (4, vI l4), (5, vI l5), (6, vI r24), (7, vI l8), (8, vI (l8 + 1))]) [4, 5, 6, 7, 8, 9, 2, 1, 0] rfl ?_
      exact h
    · replace h := h.2 q
      refine R_goto 122 e_X12_fly_5.2.2.2.2.2.2.2.2.1 (by decide) ?_
      refine R_iinc (ls2 := [(8, vI (l8 + 1)), (9, vI r24), (0, vA G 0), (1, vI l1), (2, vI l2), (3, vI l3), (4, vI l4), (5, vI l5), (6, vI l6), (7, vI l7)]) e_X12_fly_6.2.2.2.1 9 rfl (by decide) rfl ?_
      refine R_goto 77 e_X12_fly_6.2.2.2.2.1 (by decide) ?_
      refine R_ls (ls2 := [(0, vA G 0), (1, vI l1), (2, vI l2), (3, vI l3), (4, vI l4), (5, vI l5), (6, vI l6), (7, vI l7), (8, vI (l8 + 1))]) [2, 3, 4, 5, 6, 7, 8, 9, 0] rfl ?_
      exact h
theorem S_X12_fly_140 {G : Kg} {σ : Kmem} {Q : Int → Kmem → Prop} {l1 l2 l3 l4 l6 l7 l8 : Int}  (h : (rI l8) ∧ ((l8 < 0 → Q l6 (kup σ 0 2 0)) ∧ (0 ≤ l8 → (0 ≤ l7 ∧ l7 ≤ 2147483647) ∧ (0 ≤ l8 ∧ l8 < 5) ∧ (0 ≤ l7 ∧ l7 ≤ 2147483647) ∧ E_X12_fly_140 G l6 (l7 / 5) (l8 + (-1)) (kup σ 10 l8 (l7 % 5)) Q))) : E_X12_fly_140 G l6 l7 l8 σ Q := by
  refine R_iload e_X12_fly_7.2.2.1 3 rfl ?_
  obtain ⟨q31, h⟩ := h
  refine R_if_lt 168 e_X12_fly_7.2.2.2.1 (by decide) q31  (fun q => ?_) (fun q => ?_)
  · replace h := h.1 q
    refine R_aload_n e_X12_fly_8.2.2.2.2.2.2.2.1 0 rfl ?_
    refine R_iload e_X12_fly_8.2.2.2.2.2.2.2.2.1 1 rfl ?_
    refine R_callV (mc := 0) (ms := 0) (mc' := 0) (ms' := 0) (M' := M_X12_gives) (d' := 0) (as := [vI l6]) (st := []) 12 1 e_X12_fly_8.2.2.2.2.2.2.2.2.2 (kCVof m_X12_gives l_X12_97) rfl (by decide) km_0 (by decide) (by decide) rfl rfl (by show (0 : Nat) ≤ 8; decide) ?_
    refine S_X12_gives ?_
    refine R_eqs (st2 := [vI l6]) (σ2 := (kup σ 0 2 0)) rfl rfl ?_
    exact R_ireturn e_X12_fly_9 rfl h
  · replace h := h.2 q
    refine R_aload_n e_X12_fly_7.2.2.2.2.1 0 rfl ?_
    refine R_getA 12 25 10 e_X12_fly_7.2.2.2.2.2.1 f_X12_50 km_0 (fun _ _ => rfl) rm_0_25 (by decide) ?_
    refine R_iload e_X12_fly_7.2.2.2.2.2.2.1 3 rfl ?_
    refine R_iload e_X12_fly_7.2.2.2.2.2.2.2.1 2 rfl ?_
    refine R_iconst e_X12_fly_7.2.2.2.2.2.2.2.2.1 ?_
    obtain ⟨q34, h⟩ := h
    refine R_irem e_X12_fly_7.2.2.2.2.2.2.2.2.2 q34 (by decide) ?_
    obtain ⟨q35, h⟩ := h
    refine R_iast 5 WM_ok e_X12_fly_8.1 kma_10 q35 ?_
    refine R_iload e_X12_fly_8.2.1 2 rfl ?_
    refine R_iconst e_X12_fly_8.2.2.1 ?_
    obtain ⟨q36, h⟩ := h
    refine R_idiv e_X12_fly_8.2.2.2.1 q36 (by decide) ?_
    refine R_istore (ls2 := [(7, vI (l7 / 5)), (0, vA G 0), (6, vI l6), (8, vI l8)]) e_X12_fly_8.2.2.2.2.1 (by decide) rfl ?_
    refine R_iinc (ls2 := [(8, vI (l8 + (-1))), (7, vI (l7 / 5)), (0, vA G 0), (6, vI l6)]) e_X12_fly_8.2.2.2.2.2.1 3 rfl (by decide) rfl ?_
    refine R_goto 140 e_X12_fly_8.2.2.2.2.2.2.1 (by decide) ?_
    refine R_ls (ls2 := [(0, vA G 0), (6, vI l6), (7, vI (l7 / 5)), (8, vI (l8 + (-1)))]) [2, 3, 1, 0] rfl ?_
    exact h
/-! KiteLandModel.duelled(III)I -/
theorem e_X12_duelled_0 : decode cX12_duelled 0 = .ok (.aload_n 0, 1) ∧ decode cX12_duelled 1 = .ok (.sipush 3084, 3) ∧ decode cX12_duelled 4 = .ok (.invokevirtual 419, 3) ∧ decode cX12_duelled 7 = .ok (.aload_n 0, 1) ∧ decode cX12_duelled 8 = .ok (.iload_n 1, 1) ∧ decode cX12_duelled 9 = .ok (.iload_n 2, 1) ∧ decode cX12_duelled 10 = .ok (.iload_n 3, 1) ∧ decode cX12_duelled 11 = .ok (.invokevirtual 484, 3) ∧ decode cX12_duelled 14 = .ok (.istore 4, 2) ∧ decode cX12_duelled 16 = .ok (.aload_n 0, 1) := by decide +kernel
theorem e_X12_duelled_1 : decode cX12_duelled 17 = .ok (.sipush 3084, 3) ∧ decode cX12_duelled 20 = .ok (.invokevirtual 422, 3) ∧ decode cX12_duelled 23 = .ok (.iload 4, 2) ∧ decode cX12_duelled 25 = .ok (.ireturn, 1) := by decide +kernel
theorem S_X12_duelled {G : Kg} {σ : Kmem} {Q : Int → Kmem → Prop} {l1 l2 l3 : Int}  (h : ((150 : Int) ≤ 3084 ∧ (3084 : Int) ≤ 3448) ∧ Run G WM M_X12_duelOf 8 0 0 [vA G 0, vI l1, vI l2, vI l3] (kst σ 1 (sKeep (σ 1) (3084))) (fun r4 s5 => ((150 : Int) ≤ 3084 ∧ (3084 : Int) ≤ 3448) ∧ Q r4 (kst s5 1 (sRest (s5 1) (3084))))) : Run G WM M_X12_duelled 9 0 0 [vA G 0, vI l1, vI l2, vI l3] σ Q := by
  refine Run.of (by decide +kernel) (by show (4 : Nat) ≤ 5; decide) ?_
  show Ex G WM M_X12_duelled 9 0 0 0 [(0, vA G 0), (1, vI l1), (2, vI l2), (3, vI l3)] [] σ Q
  refine R_aload_n e_X12_duelled_0.1 0 rfl ?_
  refine R_sipush e_X12_duelled_0.2.1 (by decide) ?_
  obtain ⟨q3, h⟩ := h
  refine R_callV (mc := 0) (ms := 0) (mc' := 0) (ms' := 0) (M' := M_X12_keeps) (d' := 0) (as := [vI 3084]) (st := []) 12 1 e_X12_duelled_0.2.2.1 (kCVof m_X12_keeps l_X12_419) rfl (by decide) km_0 (by decide) (by decide) rfl rfl (by show (0 : Nat) ≤ 8; decide) ?_
  refine Run.mono (P_X12_keeps q3) (fun r s e => ?_)
  obtain ⟨e1, e2⟩ := e
  refine R_eqs (st2 := []) (σ2 := (kst σ 1 (sKeep (σ 1) (3084)))) (by rfl) e2 ?_
  refine R_aload_n e_X12_duelled_0.2.2.2.1 0 rfl ?_
  refine R_iload_n e_X12_duelled_0.2.2.2.2.1 1 rfl ?_
  refine R_iload_n e_X12_duelled_0.2.2.2.2.2.1 2 rfl ?_
  refine R_iload_n e_X12_duelled_0.2.2.2.2.2.2.1 3 rfl ?_
  refine R_callV (mc := 0) (ms := 0) (mc' := 0) (ms' := 0) (M' := M_X12_duelOf) (d' := 8) (as := [vI l1, vI l2, vI l3]) (st := []) 12 3 e_X12_duelled_0.2.2.2.2.2.2.2.1 (kCVof m_X12_duelOf l_X12_484) rfl (by decide) km_0 (by decide) (by decide) rfl rfl (by show (0 : Nat) ≤ 8; decide) ?_
  refine Run.mono h (fun r4 s5 h => ?_)
  refine R_eqs (st2 := [vI r4]) rfl rfl ?_
  refine R_istore (ls2 := [(4, vI r4), (0, vA G 0), (1, vI l1), (2, vI l2), (3, vI l3)]) e_X12_duelled_0.2.2.2.2.2.2.2.2.1 (by decide) rfl ?_
  refine R_aload_n e_X12_duelled_0.2.2.2.2.2.2.2.2.2 1 rfl ?_
  refine R_sipush e_X12_duelled_1.1 (by decide) ?_
  obtain ⟨q8, h⟩ := h
  refine R_callV (mc := 0) (ms := 0) (mc' := 0) (ms' := 0) (M' := M_X12_restores) (d' := 0) (as := [vI 3084]) (st := []) 12 1 e_X12_duelled_1.2.1 (kCVof m_X12_restores l_X12_422) rfl (by decide) km_0 (by decide) (by decide) rfl rfl (by show (0 : Nat) ≤ 8; decide) ?_
  refine Run.mono (P_X12_restores q8) (fun r s e => ?_)
  obtain ⟨e1, e2⟩ := e
  refine R_eqs (st2 := []) (σ2 := (kst s5 1 (sRest (s5 1) (3084)))) (by rfl) e2 ?_
  refine R_iload e_X12_duelled_1.2.2.1 0 rfl ?_
  exact R_ireturn e_X12_duelled_1.2.2.2 rfl h
/-! KiteLandModel.tellsBy(JJ)Z -/
theorem e_X12_tellsBy_0 : decode cX12_tellsBy 0 = .ok (.lload_n 1, 1) ∧ decode cX12_tellsBy 1 = .ok (.lstore 5, 2) ∧ decode cX12_tellsBy 3 = .ok (.lload_n 3, 1) ∧ decode cX12_tellsBy 4 = .ok (.lstore 7, 2) ∧ decode cX12_tellsBy 6 = .ok (.lload 7, 2) ∧ decode cX12_tellsBy 8 = .ok (.lconst 0, 1) ∧ decode cX12_tellsBy 9 = .ok (.lcmp, 1) ∧ decode cX12_tellsBy 10 = .ok (.ifCond .eq 21, 3) ∧ decode cX12_tellsBy 13 = .ok (.lload 5, 2) ∧ decode cX12_tellsBy 15 = .ok (.lload 7, 2) := by decide +kernel
theorem e_X12_tellsBy_1 : decode cX12_tellsBy 17 = .ok (.lrem, 1) ∧ decode cX12_tellsBy 18 = .ok (.lstore 9, 2) ∧ decode cX12_tellsBy 20 = .ok (.lload 7, 2) ∧ decode cX12_tellsBy 22 = .ok (.lstore 5, 2) ∧ decode cX12_tellsBy 24 = .ok (.lload 9, 2) ∧ decode cX12_tellsBy 26 = .ok (.lstore 7, 2) ∧ decode cX12_tellsBy 28 = .ok (.goto (-22), 3) ∧ decode cX12_tellsBy 31 = .ok (.aload_n 0, 1) ∧ decode cX12_tellsBy 32 = .ok (.lload_n 1, 1) ∧ decode cX12_tellsBy 33 = .ok (.lload 5, 2) := by decide +kernel
theorem e_X12_tellsBy_2 : decode cX12_tellsBy 35 = .ok (.ldiv, 1) ∧ decode cX12_tellsBy 36 = .ok (.putfield 90, 3) ∧ decode cX12_tellsBy 39 = .ok (.aload_n 0, 1) ∧ decode cX12_tellsBy 40 = .ok (.lload_n 3, 1) ∧ decode cX12_tellsBy 41 = .ok (.lload 5, 2) ∧ decode cX12_tellsBy 43 = .ok (.ldiv, 1) ∧ decode cX12_tellsBy 44 = .ok (.putfield 17, 3) ∧ decode cX12_tellsBy 47 = .ok (.aload_n 0, 1) ∧ decode cX12_tellsBy 48 = .ok (.iconst 0, 1) ∧ decode cX12_tellsBy 49 = .ok (.invokevirtual 100, 3) := by decide +kernel
theorem e_X12_tellsBy_3 : decode cX12_tellsBy 52 = .ok (.ireturn, 1) := by decide +kernel
abbrev E_X12_tellsBy_6 (G : Kg) (l1 l3 l5 l7 : Int) (σ : Kmem) (Q : Int → Kmem → Prop) : Prop := Ex G WM M_X12_tellsBy 1 0 0 6 [(0, vA G 0), (1, vL l1), (3, vL l3), (5, vL l5), (7, vL l7)] [] σ Q
theorem S_X12_tellsBy {G : Kg} {σ : Kmem} {Q : Int → Kmem → Prop} {l1 l3 : Int}  (h : E_X12_tellsBy_6 G l1 l3 l1 l3 σ Q) : Run G WM M_X12_tellsBy 1 0 0 [vA G 0, vL l1, vL l3] σ Q := by
  refine Run.of (by decide +kernel) (by show (5 : Nat) ≤ 11; decide) ?_
  show Ex G WM M_X12_tellsBy 1 0 0 0 [(0, vA G 0), (1, vL l1), (3, vL l3)] [] σ Q
  refine R_lload_n e_X12_tellsBy_0.1 1 rfl ?_
  refine R_lstore (ls2 := [(5, vL l1), (0, vA G 0), (1, vL l1), (3, vL l3)]) e_X12_tellsBy_0.2.1 (by decide) rfl ?_
  refine R_lload_n e_X12_tellsBy_0.2.2.1 3 rfl ?_
  refine R_lstore (ls2 := [(7, vL l3), (5, vL l1), (0, vA G 0), (1, vL l1), (3, vL l3)]) e_X12_tellsBy_0.2.2.2.1 (by decide) rfl ?_
  refine R_ls (ls2 := [(0, vA G 0), (1, vL l1), (3, vL l3), (5, vL l1), (7, vL l3)]) [2, 3, 4, 1, 0] rfl ?_
  exact h
theorem S_X12_tellsBy_6 {G : Kg} {σ : Kmem} {Q : Int → Kmem → Prop} {l1 l3 l5 l7 : Int}  (h : (rL l7) ∧ ((l7 = 0 → (0 ≤ l1 ∧ l1 ≤ 9223372036854775807) ∧ (0 < l5 ∧ l5 ≤ 9223372036854775807) ∧ (0 ≤ l3 ∧ l3 ≤ 9223372036854775807) ∧ (0 < l5 ∧ l5 ≤ 9223372036854775807) ∧ Run G WM M_X12_is 0 0 0 [vA G 0, vI 0] (kup (kup σ 0 3 (l1 / l5)) 0 4 (l3 / l5)) (fun r6 s7 => (r6 = 0 ∨ r6 = 1) ∧ Q r6 s7)) ∧ (l7 ≠ 0 → (0 ≤ l5 ∧ l5 ≤ 9223372036854775807) ∧ (0 < l7 ∧ l7 ≤ 9223372036854775807) ∧ E_X12_tellsBy_6 G l1 l3 l7 (l5 % l7) σ Q))) : E_X12_tellsBy_6 G l1 l3 l5 l7 σ Q := by
  refine R_lload e_X12_tellsBy_0.2.2.2.2.1 4 rfl ?_
  refine R_lconst 0 e_X12_tellsBy_0.2.2.2.2.2.1 (by decide) ?_
  obtain ⟨q1, h⟩ := h
  refine R_lcmp e_X12_tellsBy_0.2.2.2.2.2.2.1 q1 (by decide) ?_
  refine R_if_eq 31 e_X12_tellsBy_0.2.2.2.2.2.2.2.1 (by decide) (kcmp_r _ _) (fun q => ?_) (fun q => ?_)
  · replace h := h.1 (kcmp_eq_t.mp q)
    refine R_aload_n e_X12_tellsBy_1.2.2.2.2.2.2.2.1 0 rfl ?_
    refine R_lload_n e_X12_tellsBy_1.2.2.2.2.2.2.2.2.1 1 rfl ?_
    refine R_lload e_X12_tellsBy_1.2.2.2.2.2.2.2.2.2 3 rfl ?_
    obtain ⟨q2, h⟩ := h
    obtain ⟨q3, h⟩ := h
    refine R_ldiv e_X12_tellsBy_2.1 q2 q3 ?_
    refine R_putL 12 3 3 WM_ok e_X12_tellsBy_2.2.1 f_X12_90 km_0 rfl rfl rfl ?_
    refine R_aload_n e_X12_tellsBy_2.2.2.1 0 rfl ?_
    refine R_lload_n e_X12_tellsBy_2.2.2.2.1 2 rfl ?_
    refine R_lload e_X12_tellsBy_2.2.2.2.2.1 3 rfl ?_
    obtain ⟨q4, h⟩ := h
    obtain ⟨q5, h⟩ := h
    refine R_ldiv e_X12_tellsBy_2.2.2.2.2.2.1 q4 q5 ?_
    refine R_putL 12 4 4 WM_ok e_X12_tellsBy_2.2.2.2.2.2.2.1 f_X12_17 km_0 rfl rfl rfl ?_
    refine R_aload_n e_X12_tellsBy_2.2.2.2.2.2.2.2.1 0 rfl ?_
    refine R_iconst e_X12_tellsBy_2.2.2.2.2.2.2.2.2.1 ?_
    refine R_callV (mc := 0) (ms := 0) (mc' := 0) (ms' := 0) (M' := M_X12_is) (d' := 0) (as := [vI 0]) (st := []) 12 1 e_X12_tellsBy_2.2.2.2.2.2.2.2.2.2 (kCVof m_X12_is l_X12_100) rfl (by decide) km_0 (by decide) (by decide) rfl rfl (by show (0 : Nat) ≤ 8; decide) ?_
    refine Run.mono h (fun r6 s7 h => ?_)
    refine R_eqs (st2 := [vI r6]) rfl rfl ?_
    obtain ⟨q8, h⟩ := h
    exact R_zreturn e_X12_tellsBy_3 rfl q8 h
  · replace h := h.2 (kcmp_eq_f.mp q)
    refine R_lload e_X12_tellsBy_0.2.2.2.2.2.2.2.2.1 3 rfl ?_
    refine R_lload e_X12_tellsBy_0.2.2.2.2.2.2.2.2.2 4 rfl ?_
    obtain ⟨q9, h⟩ := h
    obtain ⟨q10, h⟩ := h
    refine R_lrem e_X12_tellsBy_1.1 q9 q10 ?_
    refine R_lstore (ls2 := [(9, vL (l5 % l7)), (0, vA G 0), (1, vL l1), (3, vL l3), (5, vL l5), (7, vL l7)]) e_X12_tellsBy_1.2.1 (by decide) rfl ?_
    refine R_lload e_X12_tellsBy_1.2.2.1 5 rfl ?_
    refine R_lstore (ls2 := [(5, vL l7), (9, vL (l5 % l7)), (0, vA G 0), (1, vL l1), (3, vL l3), (7, vL l7)]) e_X12_tellsBy_1.2.2.2.1 (by decide) rfl ?_
    refine R_lload e_X12_tellsBy_1.2.2.2.2.1 1 rfl ?_
    refine R_lstore (ls2 := [(7, vL (l5 % l7)), (5, vL l7), (9, vL (l5 % l7)), (0, vA G 0), (1, vL l1), (3, vL l3)]) e_X12_tellsBy_1.2.2.2.2.2.1 (by decide) rfl ?_
    refine R_goto 6 e_X12_tellsBy_1.2.2.2.2.2.2.1 (by decide) ?_
    refine R_ls (ls2 := [(0, vA G 0), (1, vL l1), (3, vL l3), (5, vL l7), (7, vL (l5 % l7))]) [3, 4, 5, 1, 0] rfl ?_
    exact h
/-! KiteLandModel.draw(I)I -/
theorem e_X12_draw_0 : decode cX12_draw 0 = .ok (.aload_n 0, 1) ∧ decode cX12_draw 1 = .ok (.aload_n 0, 1) ∧ decode cX12_draw 2 = .ok (.getfield 499, 3) ∧ decode cX12_draw 5 = .ok (.sipush 3001, 3) ∧ decode cX12_draw 8 = .ok (.imul, 1) ∧ decode cX12_draw 9 = .ok (.sipush 11197, 3) ∧ decode cX12_draw 12 = .ok (.iadd, 1) ∧ decode cX12_draw 13 = .ok (.ldc_w 502, 3) ∧ decode cX12_draw 16 = .ok (.irem, 1) ∧ decode cX12_draw 17 = .ok (.putfield 499, 3) := by decide +kernel
theorem e_X12_draw_1 : decode cX12_draw 20 = .ok (.aload_n 0, 1) ∧ decode cX12_draw 21 = .ok (.getfield 499, 3) ∧ decode cX12_draw 24 = .ok (.bipush 8, 2) ∧ decode cX12_draw 26 = .ok (.idiv, 1) ∧ decode cX12_draw 27 = .ok (.iload_n 1, 1) ∧ decode cX12_draw 28 = .ok (.irem, 1) ∧ decode cX12_draw 29 = .ok (.ireturn, 1) := by decide +kernel
theorem S_X12_draw {G : Kg} {σ : Kmem} {Q : Int → Kmem → Prop} {l1 : Int}  (h : (0 ≤ ((σ 0 35) * 3001) + 11197 ∧ ((σ 0 35) * 3001) + 11197 ≤ 2147483647) ∧ (0 ≤ (kup σ 0 35 ((((σ 0 35) * 3001) + 11197) % 65536)) 0 35 ∧ (kup σ 0 35 ((((σ 0 35) * 3001) + 11197) % 65536)) 0 35 ≤ 2147483647) ∧ (0 ≤ ((kup σ 0 35 ((((σ 0 35) * 3001) + 11197) % 65536)) 0 35) / 8 ∧ ((kup σ 0 35 ((((σ 0 35) * 3001) + 11197) % 65536)) 0 35) / 8 ≤ 2147483647) ∧ (0 < l1 ∧ l1 ≤ 2147483647) ∧ Q ((((kup σ 0 35 ((((σ 0 35) * 3001) + 11197) % 65536)) 0 35) / 8) % l1) (kup σ 0 35 ((((σ 0 35) * 3001) + 11197) % 65536))) : Run G WM M_X12_draw 0 0 0 [vA G 0, vI l1] σ Q := by
  refine Run.of (by decide +kernel) (by show (2 : Nat) ≤ 2; decide) ?_
  show Ex G WM M_X12_draw 0 0 0 0 [(0, vA G 0), (1, vI l1)] [] σ Q
  refine R_aload_n e_X12_draw_0.1 0 rfl ?_
  refine R_aload_n e_X12_draw_0.2.1 0 rfl ?_
  refine R_getI 12 35 35 e_X12_draw_0.2.2.1 f_X12_499 km_0 (fun _ _ => rfl) rfl ?_
  refine R_sipush e_X12_draw_0.2.2.2.1 (by decide) ?_
  refine R_imul e_X12_draw_0.2.2.2.2.1 ?_
  refine R_sipush e_X12_draw_0.2.2.2.2.2.1 (by decide) ?_
  refine R_iadd e_X12_draw_0.2.2.2.2.2.2.1 ?_
  refine R_ldc_w (65536) k_X12_502 e_X12_draw_0.2.2.2.2.2.2.2.1 ?_
  obtain ⟨q1, h⟩ := h
  refine R_irem e_X12_draw_0.2.2.2.2.2.2.2.2.1 q1 (by decide) ?_
  refine R_putI 12 35 35 WM_ok e_X12_draw_0.2.2.2.2.2.2.2.2.2 f_X12_499 km_0 rfl rfl rfl ?_
  refine R_aload_n e_X12_draw_1.1 0 rfl ?_
  refine R_getI 12 35 35 e_X12_draw_1.2.1 f_X12_499 km_0 (fun _ _ => rfl) rfl ?_
  refine R_bipush e_X12_draw_1.2.2.1 (by decide) ?_
  obtain ⟨q2, h⟩ := h
  refine R_idiv e_X12_draw_1.2.2.2.1 q2 (by decide) ?_
  refine R_iload_n e_X12_draw_1.2.2.2.2.1 1 rfl ?_
  obtain ⟨q3, h⟩ := h
  obtain ⟨q4, h⟩ := h
  refine R_irem e_X12_draw_1.2.2.2.2.2.1 q3 q4 ?_
  exact R_ireturn e_X12_draw_1.2.2.2.2.2.2 rfl h
/-! KiteLandModel.walksBy(II)Z -/
theorem e_X12_walksBy_0 : decode cX12_walksBy 0 = .ok (.aload_n 0, 1) ∧ decode cX12_walksBy 1 = .ok (.iload_n 1, 1) ∧ decode cX12_walksBy 2 = .ok (.iload_n 2, 1) ∧ decode cX12_walksBy 3 = .ok (.invokevirtual 402, 3) ∧ decode cX12_walksBy 6 = .ok (.ifCond .ne 5, 3) ∧ decode cX12_walksBy 9 = .ok (.iconst 0, 1) ∧ decode cX12_walksBy 10 = .ok (.ireturn, 1) ∧ decode cX12_walksBy 11 = .ok (.aload_n 0, 1) ∧ decode cX12_walksBy 12 = .ok (.getfield 77, 3) ∧ decode cX12_walksBy 15 = .ok (.iconst 2, 1) := by decide +kernel
theorem e_X12_walksBy_1 : decode cX12_walksBy 16 = .ok (.dup2, 1) ∧ decode cX12_walksBy 17 = .ok (.iaload, 1) ∧ decode cX12_walksBy 18 = .ok (.iconst 1, 1) ∧ decode cX12_walksBy 19 = .ok (.iadd, 1) ∧ decode cX12_walksBy 20 = .ok (.iastore, 1) ∧ decode cX12_walksBy 21 = .ok (.iconst 1, 1) ∧ decode cX12_walksBy 22 = .ok (.ireturn, 1) := by decide +kernel
theorem S_X12_walksBy {G : Kg} {σ : Kmem} {Q : Int → Kmem → Prop} {l1 l2 : Int}  (h : (wf (σ 1) ∧ sKt (σ 1) (l1) ∧ rI (l2)) ∧ (((sMay (σ 1) (l1) (l2)) → Q 1 (kup (kst σ 1 (kif (sMay (σ 1) (l1) (l2)) (sWalk (σ 1) (l1) (l2)) (σ 1))) 19 2 (((kst σ 1 (kif (sMay (σ 1) (l1) (l2)) (sWalk (σ 1) (l1) (l2)) (σ 1))) 19 2) + 1))) ∧ (¬ (sMay (σ 1) (l1) (l2)) → Q 0 (kst σ 1 (kif (sMay (σ 1) (l1) (l2)) (sWalk (σ 1) (l1) (l2)) (σ 1)))))) : Run G WM M_X12_walksBy 3 0 0 [vA G 0, vI l1, vI l2] σ Q := by
  refine Run.of (by decide +kernel) (by show (3 : Nat) ≤ 3; decide) ?_
  show Ex G WM M_X12_walksBy 3 0 0 0 [(0, vA G 0), (1, vI l1), (2, vI l2)] [] σ Q
  refine R_aload_n e_X12_walksBy_0.1 0 rfl ?_
  refine R_iload_n e_X12_walksBy_0.2.1 1 rfl ?_
  refine R_iload_n e_X12_walksBy_0.2.2.1 2 rfl ?_
  obtain ⟨q3, h⟩ := h
  refine R_callV (mc := 0) (ms := 0) (mc' := 0) (ms' := 0) (M' := M_X12_walks) (d' := 2) (as := [vI l1, vI l2]) (st := []) 12 2 e_X12_walksBy_0.2.2.2.1 (kCVof m_X12_walks l_X12_402) rfl (by decide) km_0 (by decide) (by decide) rfl rfl (by show (0 : Nat) ≤ 8; decide) ?_
  refine Run.mono (P_X12_walks q3) (fun r s e => ?_)
  obtain ⟨e1, e2⟩ := e
  refine R_eqs (st2 := [vI (kb (sMay (σ 1) (l1) (l2)))]) (σ2 := (kst σ 1 (kif (sMay (σ 1) (l1) (l2)) (sWalk (σ 1) (l1) (l2)) (σ 1)))) (by rw [e1]; rfl) e2 ?_
  refine R_if_ne 11 e_X12_walksBy_0.2.2.2.2.1 (by decide) (kb_r _) (fun q => ?_) (fun q => ?_)
  · replace h := h.1 (kb_t q)
    refine R_aload_n e_X12_walksBy_0.2.2.2.2.2.2.2.1 0 rfl ?_
    refine R_getA 12 38 19 e_X12_walksBy_0.2.2.2.2.2.2.2.2.1 f_X12_77 km_0 (fun _ _ => rfl) rm_0_38 (by decide) ?_
    refine R_iconst e_X12_walksBy_0.2.2.2.2.2.2.2.2.2 ?_
    refine R_dup2 e_X12_walksBy_1.1 rfl rfl ?_
    refine R_iald 5 e_X12_walksBy_1.2.1 kma_19 (by decide) ?_
    refine R_iconst e_X12_walksBy_1.2.2.1 ?_
    refine R_iadd e_X12_walksBy_1.2.2.2.1 ?_
    refine R_iast 5 WM_ok e_X12_walksBy_1.2.2.2.2.1 kma_19 (by decide) ?_
    refine R_iconst e_X12_walksBy_1.2.2.2.2.2.1 ?_
    exact R_zreturn e_X12_walksBy_1.2.2.2.2.2.2 rfl (Or.inr rfl) h
  · replace h := h.2 (kb_f q)
    refine R_iconst e_X12_walksBy_0.2.2.2.2.2.1 ?_
    exact R_zreturn e_X12_walksBy_0.2.2.2.2.2.2.1 rfl (Or.inl rfl) h
/-! KiteLandModel.hoursGo(I)Z -/
theorem e_X12_hoursGo_0 : decode cX12_hoursGo 0 = .ok (.aload_n 0, 1) ∧ decode cX12_hoursGo 1 = .ok (.getfield 7, 3) ∧ decode cX12_hoursGo 4 = .ok (.bipush 7, 2) ∧ decode cX12_hoursGo 6 = .ok (.iaload, 1) ∧ decode cX12_hoursGo 7 = .ok (.iload_n 1, 1) ∧ decode cX12_hoursGo 8 = .ok (.iadd, 1) ∧ decode cX12_hoursGo 9 = .ok (.sipush 9999, 3) ∧ decode cX12_hoursGo 12 = .ok (.if_icmp .le 5, 3) ∧ decode cX12_hoursGo 15 = .ok (.iconst 0, 1) ∧ decode cX12_hoursGo 16 = .ok (.ireturn, 1) := by decide +kernel
theorem e_X12_hoursGo_1 : decode cX12_hoursGo 17 = .ok (.iconst 0, 1) ∧ decode cX12_hoursGo 18 = .ok (.istore_n 2, 1) ∧ decode cX12_hoursGo 19 = .ok (.iload_n 2, 1) ∧ decode cX12_hoursGo 20 = .ok (.iload_n 1, 1) ∧ decode cX12_hoursGo 21 = .ok (.if_icmp .ge 25, 3) ∧ decode cX12_hoursGo 24 = .ok (.aload_n 0, 1) ∧ decode cX12_hoursGo 25 = .ok (.getfield 77, 3) ∧ decode cX12_hoursGo 28 = .ok (.iconst 3, 1) ∧ decode cX12_hoursGo 29 = .ok (.dup2, 1) ∧ decode cX12_hoursGo 30 = .ok (.iaload, 1) := by decide +kernel
theorem e_X12_hoursGo_2 : decode cX12_hoursGo 31 = .ok (.aload_n 0, 1) ∧ decode cX12_hoursGo 32 = .ok (.invokevirtual 397, 3) ∧ decode cX12_hoursGo 35 = .ok (.invokestatic 302, 3) ∧ decode cX12_hoursGo 38 = .ok (.iadd, 1) ∧ decode cX12_hoursGo 39 = .ok (.iastore, 1) ∧ decode cX12_hoursGo 40 = .ok (.iinc 2 1, 3) ∧ decode cX12_hoursGo 43 = .ok (.goto (-24), 3) ∧ decode cX12_hoursGo 46 = .ok (.aload_n 0, 1) ∧ decode cX12_hoursGo 47 = .ok (.getfield 77, 3) ∧ decode cX12_hoursGo 50 = .ok (.iconst 1, 1) := by decide +kernel
theorem e_X12_hoursGo_3 : decode cX12_hoursGo 51 = .ok (.dup2, 1) ∧ decode cX12_hoursGo 52 = .ok (.iaload, 1) ∧ decode cX12_hoursGo 53 = .ok (.iload_n 1, 1) ∧ decode cX12_hoursGo 54 = .ok (.iadd, 1) ∧ decode cX12_hoursGo 55 = .ok (.iastore, 1) ∧ decode cX12_hoursGo 56 = .ok (.iconst 1, 1) ∧ decode cX12_hoursGo 57 = .ok (.ireturn, 1) := by decide +kernel
abbrev E_X12_hoursGo_19 (G : Kg) (l1 l2 : Int) (σ : Kmem) (Q : Int → Kmem → Prop) : Prop := Ex G WM M_X12_hoursGo 9 0 0 19 [(0, vA G 0), (1, vI l1), (2, vI l2)] [] σ Q
theorem S_X12_hoursGo {G : Kg} {σ : Kmem} {Q : Int → Kmem → Prop} {l1 : Int}  (h : (rI ((σ 1 7) + l1)) ∧ (((σ 1 7) + l1 ≤ 9999 → E_X12_hoursGo_19 G l1 0 σ Q) ∧ (9999 < (σ 1 7) + l1 → Q 0 σ))) : Run G WM M_X12_hoursGo 9 0 0 [vA G 0, vI l1] σ Q := by
  refine Run.of (by decide +kernel) (by show (2 : Nat) ≤ 3; decide) ?_
  show Ex G WM M_X12_hoursGo 9 0 0 0 [(0, vA G 0), (1, vI l1)] [] σ Q
  refine R_aload_n e_X12_hoursGo_0.1 0 rfl ?_
  refine R_getA 12 0 1 e_X12_hoursGo_0.2.1 f_X12_7 km_0 (fun _ _ => rfl) rm_0_0 (by decide) ?_
  refine R_bipush e_X12_hoursGo_0.2.2.1 (by decide) ?_
  refine R_iald 3598 e_X12_hoursGo_0.2.2.2.1 kma_1 (by decide) ?_
  refine R_iload_n e_X12_hoursGo_0.2.2.2.2.1 1 rfl ?_
  refine R_iadd e_X12_hoursGo_0.2.2.2.2.2.1 ?_
  refine R_sipush e_X12_hoursGo_0.2.2.2.2.2.2.1 (by decide) ?_
  obtain ⟨q1, h⟩ := h
  refine R_icmp_le 17 e_X12_hoursGo_0.2.2.2.2.2.2.2.1 (by decide) q1 (by decide) (fun q => ?_) (fun q => ?_)
  · replace h := h.1 q
    refine R_iconst e_X12_hoursGo_1.1 ?_
    refine R_istore_n (ls2 := [(2, vI 0), (0, vA G 0), (1, vI l1)]) e_X12_hoursGo_1.2.1 (by decide) rfl ?_
    refine R_ls (ls2 := [(0, vA G 0), (1, vI l1), (2, vI 0)]) [1, 2, 0] rfl ?_
    exact h
  · replace h := h.2 q
    refine R_iconst e_X12_hoursGo_0.2.2.2.2.2.2.2.2.1 ?_
    exact R_zreturn e_X12_hoursGo_0.2.2.2.2.2.2.2.2.2 rfl (Or.inl rfl) h
theorem S_X12_hoursGo_19 {G : Kg} {σ : Kmem} {Q : Int → Kmem → Prop} {l1 l2 : Int}  (h : (rI l2) ∧ (rI l1) ∧ ((l1 ≤ l2 → Q 1 (kup σ 19 1 ((σ 19 1) + l1))) ∧ (l2 < l1 → (wf (σ 1)) ∧ ((0 : Int) ≤ (sDooms (σ 1) : Int) ∧ ((sDooms (σ 1) : Int) : Int) < 64) ∧ E_X12_hoursGo_19 G l1 (l2 + 1) (kup (kst σ 1 (sBy (σ 1))) 19 3 ((σ 19 3) + (kbits ((sDooms (σ 1) : Int)).toNat : Int))) Q))) : E_X12_hoursGo_19 G l1 l2 σ Q := by
  refine R_iload_n e_X12_hoursGo_1.2.2.1 2 rfl ?_
  refine R_iload_n e_X12_hoursGo_1.2.2.2.1 1 rfl ?_
  obtain ⟨q2, h⟩ := h
  obtain ⟨q3, h⟩ := h
  refine R_icmp_ge 46 e_X12_hoursGo_1.2.2.2.2.1 (by decide) q2 q3 (fun q => ?_) (fun q => ?_)
  · replace h := h.1 q
    refine R_aload_n e_X12_hoursGo_2.2.2.2.2.2.2.2.1 0 rfl ?_
    refine R_getA 12 38 19 e_X12_hoursGo_2.2.2.2.2.2.2.2.2.1 f_X12_77 km_0 (fun _ _ => rfl) rm_0_38 (by decide) ?_
    refine R_iconst e_X12_hoursGo_2.2.2.2.2.2.2.2.2.2 ?_
    refine R_dup2 e_X12_hoursGo_3.1 rfl rfl ?_
    refine R_iald 5 e_X12_hoursGo_3.2.1 kma_19 (by decide) ?_
    refine R_iload_n e_X12_hoursGo_3.2.2.1 1 rfl ?_
    refine R_iadd e_X12_hoursGo_3.2.2.2.1 ?_
    refine R_iast 5 WM_ok e_X12_hoursGo_3.2.2.2.2.1 kma_19 (by decide) ?_
    refine R_iconst e_X12_hoursGo_3.2.2.2.2.2.1 ?_
    exact R_zreturn e_X12_hoursGo_3.2.2.2.2.2.2 rfl (Or.inr rfl) h
  · replace h := h.2 q
    refine R_aload_n e_X12_hoursGo_1.2.2.2.2.2.1 0 rfl ?_
    refine R_getA 12 38 19 e_X12_hoursGo_1.2.2.2.2.2.2.1 f_X12_77 km_0 (fun _ _ => rfl) rm_0_38 (by decide) ?_
    refine R_iconst e_X12_hoursGo_1.2.2.2.2.2.2.2.1 ?_
    refine R_dup2 e_X12_hoursGo_1.2.2.2.2.2.2.2.2.1 rfl rfl ?_
    refine R_iald 5 e_X12_hoursGo_1.2.2.2.2.2.2.2.2.2 kma_19 (by decide) ?_
    refine R_aload_n e_X12_hoursGo_2.1 0 rfl ?_
    obtain ⟨q6, h⟩ := h
    refine R_callV (mc := 0) (ms := 0) (mc' := 0) (ms' := 0) (M' := M_X12_goesBy) (d' := 8) (as := []) (st := [vI (σ 19 3), vI 3, vA G 19]) 12 0 e_X12_hoursGo_2.2.1 (kCVof m_X12_goesBy l_X12_397) rfl (by decide) km_0 (by decide) (by decide) rfl rfl (by show (3 : Nat) ≤ 8; decide) ?_
    refine Run.mono (P_X12_goesBy q6) (fun r s e => ?_)
    obtain ⟨e1, e2⟩ := e
    refine R_eqs (st2 := [vI (sDooms (σ 1) : Int), vI (σ 19 3), vI 3, vA G 19]) (σ2 := (kst σ 1 (sBy (σ 1)))) (by rw [e1]; rfl) e2 ?_
    obtain ⟨q9, h⟩ := h
    refine R_callS (mc := 0) (ms := 0) (mc' := 0) (ms' := 0) (M' := M_X12_bits) (d' := 0) (as := [vI (sDooms (σ 1) : Int)]) (st := [vI (σ 19 3), vI 3, vA G 19]) 1 e_X12_hoursGo_2.2.2.1 (kCSof m_X12_bits l_X12_302) (by decide) (by decide) rfl rfl (by show (3 : Nat) ≤ 8; decide) ?_
    refine Run.mono (P_X12_bits q9) (fun r s e => ?_)
    obtain ⟨e1, e2⟩ := e
    refine R_eqs (st2 := [vI (kbits ((sDooms (σ 1) : Int)).toNat : Int), vI (σ 19 3), vI 3, vA G 19]) (σ2 := (kst σ 1 (sBy (σ 1)))) (by rw [e1]; rfl) e2 ?_
    refine R_iadd e_X12_hoursGo_2.2.2.2.1 ?_
    refine R_iast 5 WM_ok e_X12_hoursGo_2.2.2.2.2.1 kma_19 (by decide) ?_
    refine R_iinc (ls2 := [(2, vI (l2 + 1)), (0, vA G 0), (1, vI l1)]) e_X12_hoursGo_2.2.2.2.2.2.1 2 rfl (by decide) rfl ?_
    refine R_goto 19 e_X12_hoursGo_2.2.2.2.2.2.2.1 (by decide) ?_
    refine R_ls (ls2 := [(0, vA G 0), (1, vI l1), (2, vI (l2 + 1))]) [1, 2, 0] rfl ?_
    exact h
/-! KiteLandModel.does(I)Z -/
theorem e_X12_does_0 : decode cX12_does 0 = .ok (.aload_n 0, 1) ∧ decode cX12_does 1 = .ok (.getfield 7, 3) ∧ decode cX12_does 4 = .ok (.iload_n 1, 1) ∧ decode cX12_does 5 = .ok (.iconst 1, 1) ∧ decode cX12_does 6 = .ok (.iadd, 1) ∧ decode cX12_does 7 = .ok (.iaload, 1) ∧ decode cX12_does 8 = .ok (.istore_n 2, 1) ∧ decode cX12_does 9 = .ok (.aload_n 0, 1) ∧ decode cX12_does 10 = .ok (.getfield 7, 3) ∧ decode cX12_does 13 = .ok (.iload_n 1, 1) := by decide +kernel
theorem e_X12_does_1 : decode cX12_does 14 = .ok (.iaload, 1) ∧ decode cX12_does 15 = .ok (.tableswitch 80 15 19 #[33, 39, 53, 60, 67], 33) ∧ decode cX12_does 48 = .ok (.aload_n 0, 1) ∧ decode cX12_does 49 = .ok (.iload_n 2, 1) ∧ decode cX12_does 50 = .ok (.invokevirtual 503, 3) ∧ decode cX12_does 53 = .ok (.ireturn, 1) ∧ decode cX12_does 54 = .ok (.aload_n 0, 1) ∧ decode cX12_does 55 = .ok (.iload_n 2, 1) ∧ decode cX12_does 56 = .ok (.aload_n 0, 1) ∧ decode cX12_does 57 = .ok (.getfield 7, 3) := by decide +kernel
theorem e_X12_does_2 : decode cX12_does 60 = .ok (.iload_n 1, 1) ∧ decode cX12_does 61 = .ok (.iconst 2, 1) ∧ decode cX12_does 62 = .ok (.iadd, 1) ∧ decode cX12_does 63 = .ok (.iaload, 1) ∧ decode cX12_does 64 = .ok (.invokevirtual 506, 3) ∧ decode cX12_does 67 = .ok (.ireturn, 1) ∧ decode cX12_does 68 = .ok (.aload_n 0, 1) ∧ decode cX12_does 69 = .ok (.iload_n 2, 1) ∧ decode cX12_does 70 = .ok (.iconst 1, 1) ∧ decode cX12_does 71 = .ok (.invokevirtual 405, 3) := by decide +kernel
theorem e_X12_does_3 : decode cX12_does 74 = .ok (.ireturn, 1) ∧ decode cX12_does 75 = .ok (.aload_n 0, 1) ∧ decode cX12_does 76 = .ok (.iload_n 2, 1) ∧ decode cX12_does 77 = .ok (.iconst 0, 1) ∧ decode cX12_does 78 = .ok (.invokevirtual 405, 3) ∧ decode cX12_does 81 = .ok (.ireturn, 1) ∧ decode cX12_does 82 = .ok (.aload_n 0, 1) ∧ decode cX12_does 83 = .ok (.iload_n 2, 1) ∧ decode cX12_does 84 = .ok (.aload_n 0, 1) ∧ decode cX12_does 85 = .ok (.iconst 4, 1) := by decide +kernel
theorem e_X12_does_4 : decode cX12_does 86 = .ok (.invokevirtual 509, 3) ∧ decode cX12_does 89 = .ok (.iconst 1, 1) ∧ decode cX12_does 90 = .ok (.iadd, 1) ∧ decode cX12_does 91 = .ok (.invokevirtual 506, 3) ∧ decode cX12_does 94 = .ok (.ireturn, 1) ∧ decode cX12_does 95 = .ok (.iconst 1, 1) ∧ decode cX12_does 96 = .ok (.ireturn, 1) := by decide +kernel
theorem S_X12_does {G : Kg} {σ : Kmem} {Q : Int → Kmem → Prop} {l1 : Int}  (h : (0 ≤ l1 + 1 ∧ l1 + 1 < 3598) ∧ (0 ≤ l1 ∧ l1 < 3598) ∧ (rI (σ 1 l1)) ∧ ((σ 1 l1 = 15 → Run G WM M_X12_hoursGo 9 0 0 [vA G 0, vI (σ 1 (l1 + 1))] σ (fun r4 s5 => (r4 = 0 ∨ r4 = 1) ∧ Q r4 s5)) ∧ (σ 1 l1 = 16 → (0 ≤ l1 + 2 ∧ l1 + 2 < 3598) ∧ Run G WM M_X12_walksBy 3 0 0 [vA G 0, vI (σ 1 (l1 + 1)), vI (σ 1 (l1 + 2))] σ (fun r8 s9 => (r8 = 0 ∨ r8 = 1) ∧ Q r8 s9)) ∧ (σ 1 l1 = 17 → (wf (σ 1) ∧ sKt (σ 1) ((σ 1 (l1 + 1))) ∧ ((1 : Int) = 0 ∨ (1 : Int) = 1)) ∧ Q (kb ((σ 1) (34 + 9 * ((σ 1 (l1 + 1))) + 8) ≠ 1)) (kst σ 1 (ku (σ 1) (34 + 9 * ((σ 1 (l1 + 1))) + 8) (1)))) ∧ (σ 1 l1 = 18 → (wf (σ 1) ∧ sKt (σ 1) ((σ 1 (l1 + 1))) ∧ ((0 : Int) = 0 ∨ (0 : Int) = 1)) ∧ Q (kb ((σ 1) (34 + 9 * ((σ 1 (l1 + 1))) + 8) ≠ 0)) (kst σ 1 (ku (σ 1) (34 + 9 * ((σ 1 (l1 + 1))) + 8) (0)))) ∧ (σ 1 l1 = 19 → Run G WM M_X12_draw 0 0 0 [vA G 0, vI 4] σ (fun r17 s18 => Run G WM M_X12_walksBy 3 0 0 [vA G 0, vI (σ 1 (l1 + 1)), vI (r17 + 1)] s18 (fun r19 s20 => (r19 = 0 ∨ r19 = 1) ∧ Q r19 s20))) ∧ (σ 1 l1 < 15 ∨ 19 < σ 1 l1 → Q 1 σ))) : Run G WM M_X12_does 10 0 0 [vA G 0, vI l1] σ Q := by
  refine Run.of (by decide +kernel) (by show (2 : Nat) ≤ 3; decide) ?_
  show Ex G WM M_X12_does 10 0 0 0 [(0, vA G 0), (1, vI l1)] [] σ Q
  refine R_aload_n e_X12_does_0.1 0 rfl ?_
  refine R_getA 12 0 1 e_X12_does_0.2.1 f_X12_7 km_0 (fun _ _ => rfl) rm_0_0 (by decide) ?_
  refine R_iload_n e_X12_does_0.2.2.1 1 rfl ?_
  refine R_iconst e_X12_does_0.2.2.2.1 ?_
  refine R_iadd e_X12_does_0.2.2.2.2.1 ?_
  obtain ⟨q1, h⟩ := h
  refine R_iald 3598 e_X12_does_0.2.2.2.2.2.1 kma_1 q1 ?_
  refine R_istore_n (ls2 := [(2, vI (σ 1 (l1 + 1))), (0, vA G 0), (1, vI l1)]) e_X12_does_0.2.2.2.2.2.2.1 (by decide) rfl ?_
  refine R_aload_n e_X12_does_0.2.2.2.2.2.2.2.1 1 rfl ?_
  refine R_getA 12 0 1 e_X12_does_0.2.2.2.2.2.2.2.2.1 f_X12_7 km_0 (fun _ _ => rfl) rm_0_0 (by decide) ?_
  refine R_iload_n e_X12_does_0.2.2.2.2.2.2.2.2.2 2 rfl ?_
  obtain ⟨q2, h⟩ := h
  refine R_iald 3598 e_X12_does_1.1 kma_1 q2 ?_
  obtain ⟨q3, h⟩ := h
  by_cases t15 : σ 1 l1 = 15
  · refine R_tableIn 48 e_X12_does_1.2.1 q3 (by omega) (by omega) (off := 33) (by rw [t15]; rfl) (by decide) ?_
    replace h := h.1 t15
    refine R_aload_n e_X12_does_1.2.2.1 1 rfl ?_
    refine R_iload_n e_X12_does_1.2.2.2.1 0 rfl ?_
    refine R_callV (mc := 0) (ms := 0) (mc' := 0) (ms' := 0) (M' := M_X12_hoursGo) (d' := 9) (as := [vI (σ 1 (l1 + 1))]) (st := []) 12 1 e_X12_does_1.2.2.2.2.1 (kCVof m_X12_hoursGo l_X12_503) rfl (by decide) km_0 (by decide) (by decide) rfl rfl (by show (0 : Nat) ≤ 8; decide) ?_
    refine Run.mono h (fun r4 s5 h => ?_)
    refine R_eqs (st2 := [vI r4]) rfl rfl ?_
    obtain ⟨q6, h⟩ := h
    exact R_zreturn e_X12_does_1.2.2.2.2.2.1 rfl q6 h
  by_cases t16 : σ 1 l1 = 16
  · refine R_tableIn 54 e_X12_does_1.2.1 q3 (by omega) (by omega) (off := 39) (by rw [t16]; rfl) (by decide) ?_
    replace h := h.2.1 t16
    refine R_aload_n e_X12_does_1.2.2.2.2.2.2.1 1 rfl ?_
    refine R_iload_n e_X12_does_1.2.2.2.2.2.2.2.1 0 rfl ?_
    refine R_aload_n e_X12_does_1.2.2.2.2.2.2.2.2.1 1 rfl ?_
    refine R_getA 12 0 1 e_X12_does_1.2.2.2.2.2.2.2.2.2 f_X12_7 km_0 (fun _ _ => rfl) rm_0_0 (by decide) ?_
    refine R_iload_n e_X12_does_2.1 2 rfl ?_
    refine R_iconst e_X12_does_2.2.1 ?_
    refine R_iadd e_X12_does_2.2.2.1 ?_
    obtain ⟨q7, h⟩ := h
    refine R_iald 3598 e_X12_does_2.2.2.2.1 kma_1 q7 ?_
    refine R_callV (mc := 0) (ms := 0) (mc' := 0) (ms' := 0) (M' := M_X12_walksBy) (d' := 3) (as := [vI (σ 1 (l1 + 1)), vI (σ 1 (l1 + 2))]) (st := []) 12 2 e_X12_does_2.2.2.2.2.1 (kCVof m_X12_walksBy l_X12_506) rfl (by decide) km_0 (by decide) (by decide) rfl rfl (by show (0 : Nat) ≤ 8; decide) ?_
    refine Run.mono h (fun r8 s9 h => ?_)
    refine R_eqs (st2 := [vI r8]) rfl rfl ?_
    obtain ⟨q10, h⟩ := h
    exact R_zreturn e_X12_does_2.2.2.2.2.2.1 rfl q10 h
  by_cases t17 : σ 1 l1 = 17
  · refine R_tableIn 68 e_X12_does_1.2.1 q3 (by omega) (by omega) (off := 53) (by rw [t17]; rfl) (by decide) ?_
    replace h := h.2.2.1 t17
    refine R_aload_n e_X12_does_2.2.2.2.2.2.2.1 1 rfl ?_
    refine R_iload_n e_X12_does_2.2.2.2.2.2.2.2.1 0 rfl ?_
    refine R_iconst e_X12_does_2.2.2.2.2.2.2.2.2.1 ?_
    obtain ⟨q13, h⟩ := h
    refine R_callV (mc := 0) (ms := 0) (mc' := 0) (ms' := 0) (M' := M_X12_turnsCut) (d' := 3) (as := [vI (σ 1 (l1 + 1)), vI 1]) (st := []) 12 2 e_X12_does_2.2.2.2.2.2.2.2.2.2 (kCVof m_X12_turnsCut l_X12_405) rfl (by decide) km_0 (by decide) (by decide) rfl rfl (by show (0 : Nat) ≤ 8; decide) ?_
    refine Run.mono (P_X12_turnsCut q13) (fun r s e => ?_)
    obtain ⟨e1, e2⟩ := e
    refine R_eqs (st2 := [vI (kb ((σ 1) (34 + 9 * ((σ 1 (l1 + 1))) + 8) ≠ 1))]) (σ2 := (kst σ 1 (ku (σ 1) (34 + 9 * ((σ 1 (l1 + 1))) + 8) (1)))) (by rw [e1]; rfl) e2 ?_
    exact R_zreturn e_X12_does_3.1 rfl (kb_01 _) h
  by_cases t18 : σ 1 l1 = 18
  · refine R_tableIn 75 e_X12_does_1.2.1 q3 (by omega) (by omega) (off := 60) (by rw [t18]; rfl) (by decide) ?_
    replace h := h.2.2.2.1 t18
    refine R_aload_n e_X12_does_3.2.1 1 rfl ?_
    refine R_iload_n e_X12_does_3.2.2.1 0 rfl ?_
    refine R_iconst e_X12_does_3.2.2.2.1 ?_
    obtain ⟨q16, h⟩ := h
    refine R_callV (mc := 0) (ms := 0) (mc' := 0) (ms' := 0) (M' := M_X12_turnsCut) (d' := 3) (as := [vI (σ 1 (l1 + 1)), vI 0]) (st := []) 12 2 e_X12_does_3.2.2.2.2.1 (kCVof m_X12_turnsCut l_X12_405) rfl (by decide) km_0 (by decide) (by decide) rfl rfl (by show (0 : Nat) ≤ 8; decide) ?_
    refine Run.mono (P_X12_turnsCut q16) (fun r s e => ?_)
    obtain ⟨e1, e2⟩ := e
    refine R_eqs (st2 := [vI (kb ((σ 1) (34 + 9 * ((σ 1 (l1 + 1))) + 8) ≠ 0))]) (σ2 := (kst σ 1 (ku (σ 1) (34 + 9 * ((σ 1 (l1 + 1))) + 8) (0)))) (by rw [e1]; rfl) e2 ?_
    exact R_zreturn e_X12_does_3.2.2.2.2.2.1 rfl (kb_01 _) h
  by_cases t19 : σ 1 l1 = 19
  · refine R_tableIn 82 e_X12_does_1.2.1 q3 (by omega) (by omega) (off := 67) (by rw [t19]; rfl) (by decide) ?_
    replace h := h.2.2.2.2.1 t19
    refine R_aload_n e_X12_does_3.2.2.2.2.2.2.1 1 rfl ?_
    refine R_iload_n e_X12_does_3.2.2.2.2.2.2.2.1 0 rfl ?_
    refine R_aload_n e_X12_does_3.2.2.2.2.2.2.2.2.1 1 rfl ?_
    refine R_iconst e_X12_does_3.2.2.2.2.2.2.2.2.2 ?_
    refine R_callV (mc := 0) (ms := 0) (mc' := 0) (ms' := 0) (M' := M_X12_draw) (d' := 0) (as := [vI 4]) (st := [vI (σ 1 (l1 + 1)), vA G 0]) 12 1 e_X12_does_4.1 (kCVof m_X12_draw l_X12_509) rfl (by decide) km_0 (by decide) (by decide) rfl rfl (by show (2 : Nat) ≤ 8; decide) ?_
    refine Run.mono h (fun r17 s18 h => ?_)
    refine R_eqs (st2 := [vI r17, vI (σ 1 (l1 + 1)), vA G 0]) rfl rfl ?_
    refine R_iconst e_X12_does_4.2.1 ?_
    refine R_iadd e_X12_does_4.2.2.1 ?_
    refine R_callV (mc := 0) (ms := 0) (mc' := 0) (ms' := 0) (M' := M_X12_walksBy) (d' := 3) (as := [vI (σ 1 (l1 + 1)), vI (r17 + 1)]) (st := []) 12 2 e_X12_does_4.2.2.2.1 (kCVof m_X12_walksBy l_X12_506) rfl (by decide) km_0 (by decide) (by decide) rfl rfl (by show (0 : Nat) ≤ 8; decide) ?_
    refine Run.mono h (fun r19 s20 h => ?_)
    refine R_eqs (st2 := [vI r19]) rfl rfl ?_
    obtain ⟨q21, h⟩ := h
    exact R_zreturn e_X12_does_4.2.2.2.2.1 rfl q21 h
  refine R_tableOut 95 e_X12_does_1.2.1 q3 (by omega) (by decide) ?_
  replace h := h.2.2.2.2.2 (by omega)
  refine R_iconst e_X12_does_4.2.2.2.2.2.1 ?_
  exact R_zreturn e_X12_does_4.2.2.2.2.2.2 rfl (Or.inr rfl) h
/-! KiteLandModel.holds(I)Z -/
theorem e_X12_holds_0 : decode cX12_holds 0 = .ok (.aload_n 0, 1) ∧ decode cX12_holds 1 = .ok (.getfield 7, 3) ∧ decode cX12_holds 4 = .ok (.iload_n 1, 1) ∧ decode cX12_holds 5 = .ok (.iaload, 1) ∧ decode cX12_holds 6 = .ok (.sipush 2000, 3) ∧ decode cX12_holds 9 = .ok (.isub, 1) ∧ decode cX12_holds 10 = .ok (.istore_n 2, 1) ∧ decode cX12_holds 11 = .ok (.aload_n 0, 1) ∧ decode cX12_holds 12 = .ok (.getfield 7, 3) ∧ decode cX12_holds 15 = .ok (.iload_n 1, 1) := by decide +kernel
theorem e_X12_holds_1 : decode cX12_holds 16 = .ok (.iconst 1, 1) ∧ decode cX12_holds 17 = .ok (.iadd, 1) ∧ decode cX12_holds 18 = .ok (.iaload, 1) ∧ decode cX12_holds 19 = .ok (.istore_n 3, 1) ∧ decode cX12_holds 20 = .ok (.iload_n 2, 1) ∧ decode cX12_holds 21 = .ok (.bipush 25, 2) ∧ decode cX12_holds 23 = .ok (.if_icmp .ne 9, 3) ∧ decode cX12_holds 26 = .ok (.aload_n 0, 1) ∧ decode cX12_holds 27 = .ok (.iload_n 3, 1) ∧ decode cX12_holds 28 = .ok (.invokevirtual 331, 3) := by decide +kernel
theorem e_X12_holds_2 : decode cX12_holds 31 = .ok (.ireturn, 1) ∧ decode cX12_holds 32 = .ok (.iload_n 2, 1) ∧ decode cX12_holds 33 = .ok (.bipush 26, 2) ∧ decode cX12_holds 35 = .ok (.if_icmp .ne 13, 3) ∧ decode cX12_holds 38 = .ok (.aload_n 0, 1) ∧ decode cX12_holds 39 = .ok (.iload_n 3, 1) ∧ decode cX12_holds 40 = .ok (.aload_n 0, 1) ∧ decode cX12_holds 41 = .ok (.invokevirtual 325, 3) ∧ decode cX12_holds 44 = .ok (.invokevirtual 319, 3) ∧ decode cX12_holds 47 = .ok (.ireturn, 1) := by decide +kernel
theorem e_X12_holds_3 : decode cX12_holds 48 = .ok (.aload_n 0, 1) ∧ decode cX12_holds 49 = .ok (.iload_n 3, 1) ∧ decode cX12_holds 50 = .ok (.iconst 5, 1) ∧ decode cX12_holds 51 = .ok (.invokevirtual 268, 3) ∧ decode cX12_holds 54 = .ok (.istore 4, 2) ∧ decode cX12_holds 56 = .ok (.aload_n 0, 1) ∧ decode cX12_holds 57 = .ok (.getfield 7, 3) ∧ decode cX12_holds 60 = .ok (.iload_n 1, 1) ∧ decode cX12_holds 61 = .ok (.iconst 5, 1) ∧ decode cX12_holds 62 = .ok (.iadd, 1) := by decide +kernel
theorem e_X12_holds_4 : decode cX12_holds 63 = .ok (.iaload, 1) ∧ decode cX12_holds 64 = .ok (.bipush 60, 2) ∧ decode cX12_holds 66 = .ok (.if_icmp .ne 24, 3) ∧ decode cX12_holds 69 = .ok (.iload 4, 2) ∧ decode cX12_holds 71 = .ok (.aload_n 0, 1) ∧ decode cX12_holds 72 = .ok (.getfield 7, 3) ∧ decode cX12_holds 75 = .ok (.iload_n 1, 1) ∧ decode cX12_holds 76 = .ok (.iconst 2, 1) ∧ decode cX12_holds 77 = .ok (.iadd, 1) ∧ decode cX12_holds 78 = .ok (.iaload, 1) := by decide +kernel
theorem e_X12_holds_5 : decode cX12_holds 79 = .ok (.if_icmp .ge 7, 3) ∧ decode cX12_holds 82 = .ok (.iconst 1, 1) ∧ decode cX12_holds 83 = .ok (.goto 59, 3) ∧ decode cX12_holds 86 = .ok (.iconst 0, 1) ∧ decode cX12_holds 87 = .ok (.goto 55, 3) ∧ decode cX12_holds 90 = .ok (.aload_n 0, 1) ∧ decode cX12_holds 91 = .ok (.getfield 7, 3) ∧ decode cX12_holds 94 = .ok (.iload_n 1, 1) ∧ decode cX12_holds 95 = .ok (.iconst 5, 1) ∧ decode cX12_holds 96 = .ok (.iadd, 1) := by decide +kernel
theorem e_X12_holds_6 : decode cX12_holds 97 = .ok (.iaload, 1) ∧ decode cX12_holds 98 = .ok (.bipush 62, 2) ∧ decode cX12_holds 100 = .ok (.if_icmp .ne 24, 3) ∧ decode cX12_holds 103 = .ok (.iload 4, 2) ∧ decode cX12_holds 105 = .ok (.aload_n 0, 1) ∧ decode cX12_holds 106 = .ok (.getfield 7, 3) ∧ decode cX12_holds 109 = .ok (.iload_n 1, 1) ∧ decode cX12_holds 110 = .ok (.iconst 2, 1) ∧ decode cX12_holds 111 = .ok (.iadd, 1) ∧ decode cX12_holds 112 = .ok (.iaload, 1) := by decide +kernel
theorem e_X12_holds_7 : decode cX12_holds 113 = .ok (.if_icmp .le 7, 3) ∧ decode cX12_holds 116 = .ok (.iconst 1, 1) ∧ decode cX12_holds 117 = .ok (.goto 25, 3) ∧ decode cX12_holds 120 = .ok (.iconst 0, 1) ∧ decode cX12_holds 121 = .ok (.goto 21, 3) ∧ decode cX12_holds 124 = .ok (.iload 4, 2) ∧ decode cX12_holds 126 = .ok (.aload_n 0, 1) ∧ decode cX12_holds 127 = .ok (.getfield 7, 3) ∧ decode cX12_holds 130 = .ok (.iload_n 1, 1) ∧ decode cX12_holds 131 = .ok (.iconst 2, 1) := by decide +kernel
theorem e_X12_holds_8 : decode cX12_holds 132 = .ok (.iadd, 1) ∧ decode cX12_holds 133 = .ok (.iaload, 1) ∧ decode cX12_holds 134 = .ok (.if_icmp .ne 7, 3) ∧ decode cX12_holds 137 = .ok (.iconst 1, 1) ∧ decode cX12_holds 138 = .ok (.goto 4, 3) ∧ decode cX12_holds 141 = .ok (.iconst 0, 1) ∧ decode cX12_holds 142 = .ok (.ireturn, 1) := by decide +kernel
theorem S_X12_holds {G : Kg} {σ : Kmem} {Q : Int → Kmem → Prop} {l1 : Int}  (h : (0 ≤ l1 ∧ l1 < 3598) ∧ (0 ≤ l1 + 1 ∧ l1 + 1 < 3598) ∧ (rI ((σ 1 l1) - 2000)) ∧ (((σ 1 l1) - 2000 ≠ 25 → (((σ 1 l1) - 2000 ≠ 26 → (0 ≤ (34 + (9 * (σ 1 (l1 + 1)))) + 5 ∧ (34 + (9 * (σ 1 (l1 + 1)))) + 5 < 3598) ∧ (0 ≤ l1 + 5 ∧ l1 + 5 < 3598) ∧ (rI (σ 1 (l1 + 5))) ∧ ((σ 1 (l1 + 5) ≠ 60 → (0 ≤ l1 + 5 ∧ l1 + 5 < 3598) ∧ ((σ 1 (l1 + 5) ≠ 62 → (0 ≤ l1 + 2 ∧ l1 + 2 < 3598) ∧ (rI (σ 1 ((34 + (9 * (σ 1 (l1 + 1)))) + 5))) ∧ (rI (σ 1 (l1 + 2))) ∧ ((σ 1 ((34 + (9 * (σ 1 (l1 + 1)))) + 5) ≠ σ 1 (l1 + 2) → Q 0 σ) ∧ (σ 1 ((34 + (9 * (σ 1 (l1 + 1)))) + 5) = σ 1 (l1 + 2) → Q 1 σ))) ∧ (σ 1 (l1 + 5) = 62 → (0 ≤ l1 + 2 ∧ l1 + 2 < 3598) ∧ (rI (σ 1 ((34 + (9 * (σ 1 (l1 + 1)))) + 5))) ∧ (rI (σ 1 (l1 + 2))) ∧ ((σ 1 ((34 + (9 * (σ 1 (l1 + 1)))) + 5) ≤ σ 1 (l1 + 2) → Q 0 σ) ∧ (σ 1 (l1 + 2) < σ 1 ((34 + (9 * (σ 1 (l1 + 1)))) + 5) → Q 1 σ))))) ∧ (σ 1 (l1 + 5) = 60 → (0 ≤ l1 + 2 ∧ l1 + 2 < 3598) ∧ (rI (σ 1 ((34 + (9 * (σ 1 (l1 + 1)))) + 5))) ∧ (rI (σ 1 (l1 + 2))) ∧ ((σ 1 (l1 + 2) ≤ σ 1 ((34 + (9 * (σ 1 (l1 + 1)))) + 5) → Q 0 σ) ∧ (σ 1 ((34 + (9 * (σ 1 (l1 + 1)))) + 5) < σ 1 (l1 + 2) → Q 1 σ))))) ∧ ((σ 1 l1) - 2000 = 26 → (0 ≤ σ 1 7 ∧ σ 1 7 ≤ 2147483647) ∧ (wf (σ 1) ∧ sKt (σ 1) ((σ 1 (l1 + 1))) ∧ sHr (((σ 1 7) % 12))) ∧ Q (kb (sUp (σ 1) ((σ 1 (l1 + 1))) (((σ 1 7) % 12)))) σ))) ∧ ((σ 1 l1) - 2000 = 25 → (wf (σ 1) ∧ (0 : Int) ≤ (σ 1 (l1 + 1)) ∧ ((σ 1 (l1 + 1)) : Int) < (σ 1) 3) ∧ Q (kb ((σ 1) (88 + 4 * ((σ 1 (l1 + 1))) + 2) ≤ (σ 1) (88 + 4 * ((σ 1 (l1 + 1))) + 3))) σ))) : Run G WM M_X12_holds 4 0 0 [vA G 0, vI l1] σ Q := by
  refine Run.of (by decide +kernel) (by show (2 : Nat) ≤ 5; decide) ?_
  show Ex G WM M_X12_holds 4 0 0 0 [(0, vA G 0), (1, vI l1)] [] σ Q
  refine R_aload_n e_X12_holds_0.1 0 rfl ?_
  refine R_getA 12 0 1 e_X12_holds_0.2.1 f_X12_7 km_0 (fun _ _ => rfl) rm_0_0 (by decide) ?_
  refine R_iload_n e_X12_holds_0.2.2.1 1 rfl ?_
  obtain ⟨q1, h⟩ := h
  refine R_iald 3598 e_X12_holds_0.2.2.2.1 kma_1 q1 ?_
  refine R_sipush e_X12_holds_0.2.2.2.2.1 (by decide) ?_
  refine R_isub e_X12_holds_0.2.2.2.2.2.1 ?_
  refine R_istore_n (ls2 := [(2, vI ((σ 1 l1) - 2000)), (0, vA G 0), (1, vI l1)]) e_X12_holds_0.2.2.2.2.2.2.1 (by decide) rfl ?_
  refine R_aload_n e_X12_holds_0.2.2.2.2.2.2.2.1 1 rfl ?_
  refine R_getA 12 0 1 e_X12_holds_0.2.2.2.2.2.2.2.2.1 f_X12_7 km_0 (fun _ _ => rfl) rm_0_0 (by decide) ?_
  refine R_iload_n e_X12_holds_0.2.2.2.2.2.2.2.2.2 2 rfl ?_
  refine R_iconst e_X12_holds_1.1 ?_
  refine R_iadd e_X12_holds_1.2.1 ?_
  obtain ⟨q2, h⟩ := h
  refine R_iald 3598 e_X12_holds_1.2.2.1 kma_1 q2 ?_
  refine R_istore_n (ls2 := [(3, vI (σ 1 (l1 + 1))), (2, vI ((σ 1 l1) - 2000)), (0, vA G 0), (1, vI l1)]) e_X12_holds_1.2.2.2.1 (by decide) rfl ?_
  refine R_iload_n e_X12_holds_1.2.2.2.2.1 1 rfl ?_
  refine R_bipush e_X12_holds_1.2.2.2.2.2.1 (by decide) ?_
  obtain ⟨q3, h⟩ := h
  refine R_icmp_ne 32 e_X12_holds_1.2.2.2.2.2.2.1 (by decide) q3 (by decide) (fun q => ?_) (fun q => ?_)
  · replace h := h.1 q
    refine R_iload_n e_X12_holds_2.2.1 1 rfl ?_
    refine R_bipush e_X12_holds_2.2.2.1 (by decide) ?_
    refine R_icmp_ne 48 e_X12_holds_2.2.2.2.1 (by decide) q3 (by decide) (fun q => ?_) (fun q => ?_)
    · replace h := h.1 q
      refine R_aload_n e_X12_holds_3.1 2 rfl ?_
      refine R_iload_n e_X12_holds_3.2.1 0 rfl ?_
      refine R_iconst e_X12_holds_3.2.2.1 ?_
      refine R_callV (mc := 0) (ms := 0) (mc' := 0) (ms' := 0) (M' := M_X12_of) (d' := 1) (as := [vI (σ 1 (l1 + 1)), vI 5]) (st := []) 12 2 e_X12_holds_3.2.2.2.1 (kCVof m_X12_of l_X12_268) rfl (by decide) km_0 (by decide) (by decide) rfl rfl (by show (0 : Nat) ≤ 8; decide) ?_
      obtain ⟨q8, h⟩ := h
      refine S_X12_of ⟨q8, ?_⟩
      refine R_eqs (st2 := [vI (σ 1 ((34 + (9 * (σ 1 (l1 + 1)))) + 5))]) (σ2 := σ) rfl rfl ?_
      refine R_istore (ls2 := [(4, vI (σ 1 ((34 + (9 * (σ 1 (l1 + 1)))) + 5))), (3, vI (σ 1 (l1 + 1))), (2, vI ((σ 1 l1) - 2000)), (0, vA G 0), (1, vI l1)]) e_X12_holds_3.2.2.2.2.1 (by decide) rfl ?_
      refine R_aload_n e_X12_holds_3.2.2.2.2.2.1 3 rfl ?_
      refine R_getA 12 0 1 e_X12_holds_3.2.2.2.2.2.2.1 f_X12_7 km_0 (fun _ _ => rfl) rm_0_0 (by decide) ?_
      refine R_iload_n e_X12_holds_3.2.2.2.2.2.2.2.1 4 rfl ?_
      refine R_iconst e_X12_holds_3.2.2.2.2.2.2.2.2.1 ?_
      refine R_iadd e_X12_holds_3.2.2.2.2.2.2.2.2.2 ?_
      obtain ⟨q9, h⟩ := h
      refine R_iald 3598 e_X12_holds_4.1 kma_1 q9 ?_
      refine R_bipush e_X12_holds_4.2.1 (by decide) ?_
      obtain ⟨q10, h⟩ := h
      refine R_icmp_ne 90 e_X12_holds_4.2.2.1 (by decide) q10 (by decide) (fun q => ?_) (fun q => ?_)
      · replace h := h.1 q
        refine R_aload_n e_X12_holds_5.2.2.2.2.2.1 3 rfl ?_
        refine R_getA 12 0 1 e_X12_holds_5.2.2.2.2.2.2.1 f_X12_7 km_0 (fun _ _ => rfl) rm_0_0 (by decide) ?_
        refine R_iload_n e_X12_holds_5.2.2.2.2.2.2.2.1 4 rfl ?_
        refine R_iconst e_X12_holds_5.2.2.2.2.2.2.2.2.1 ?_
        refine R_iadd e_X12_holds_5.2.2.2.2.2.2.2.2.2 ?_
        obtain ⟨q11, h⟩ := h
        refine R_iald 3598 e_X12_holds_6.1 kma_1 q11 ?_
        refine R_bipush e_X12_holds_6.2.1 (by decide) ?_
        refine R_icmp_ne 124 e_X12_holds_6.2.2.1 (by decide) q10 (by decide) (fun q => ?_) (fun q => ?_)
        · replace h := h.1 q
          refine R_iload e_X12_holds_7.2.2.2.2.2.1 0 rfl ?_
          refine R_aload_n e_X12_holds_7.2.2.2.2.2.2.1 3 rfl ?_
          refine R_getA 12 0 1 e_X12_holds_7.2.2.2.2.2.2.2.1 f_X12_7 km_0 (fun _ _ => rfl) rm_0_0 (by decide) ?_
          refine R_iload_n e_X12_holds_7.2.2.2.2.2.2.2.2.1 4 rfl ?_
          refine R_iconst e_X12_holds_7.2.2.2.2.2.2.2.2.2 ?_
          refine R_iadd e_X12_holds_8.1 ?_
          obtain ⟨q12, h⟩ := h
          refine R_iald 3598 e_X12_holds_8.2.1 kma_1 q12 ?_
          obtain ⟨q13, h⟩ := h
          obtain ⟨q14, h⟩ := h
          refine R_icmp_ne 141 e_X12_holds_8.2.2.1 (by decide) q13 q14 (fun q => ?_) (fun q => ?_)
          · replace h := h.1 q
            refine R_iconst e_X12_holds_8.2.2.2.2.2.1 ?_
            exact R_zreturn e_X12_holds_8.2.2.2.2.2.2 rfl (Or.inl rfl) h
          · replace h := h.2 q
            refine R_iconst e_X12_holds_8.2.2.2.1 ?_
            refine R_goto 142 e_X12_holds_8.2.2.2.2.1 (by decide) ?_
            exact R_zreturn e_X12_holds_8.2.2.2.2.2.2 rfl (Or.inr rfl) h
        · replace h := h.2 q
          refine R_iload e_X12_holds_6.2.2.2.1 0 rfl ?_
          refine R_aload_n e_X12_holds_6.2.2.2.2.1 3 rfl ?_
          refine R_getA 12 0 1 e_X12_holds_6.2.2.2.2.2.1 f_X12_7 km_0 (fun _ _ => rfl) rm_0_0 (by decide) ?_
          refine R_iload_n e_X12_holds_6.2.2.2.2.2.2.1 4 rfl ?_
          refine R_iconst e_X12_holds_6.2.2.2.2.2.2.2.1 ?_
          refine R_iadd e_X12_holds_6.2.2.2.2.2.2.2.2.1 ?_
          obtain ⟨q15, h⟩ := h
          refine R_iald 3598 e_X12_holds_6.2.2.2.2.2.2.2.2.2 kma_1 q15 ?_
          obtain ⟨q16, h⟩ := h
          obtain ⟨q17, h⟩ := h
          refine R_icmp_le 120 e_X12_holds_7.1 (by decide) q16 q17 (fun q => ?_) (fun q => ?_)
          · replace h := h.1 q
            refine R_iconst e_X12_holds_7.2.2.2.1 ?_
            refine R_goto 142 e_X12_holds_7.2.2.2.2.1 (by decide) ?_
            exact R_zreturn e_X12_holds_8.2.2.2.2.2.2 rfl (Or.inl rfl) h
          · replace h := h.2 q
            refine R_iconst e_X12_holds_7.2.1 ?_
            refine R_goto 142 e_X12_holds_7.2.2.1 (by decide) ?_
            exact R_zreturn e_X12_holds_8.2.2.2.2.2.2 rfl (Or.inr rfl) h
      · replace h := h.2 q
        refine R_iload e_X12_holds_4.2.2.2.1 0 rfl ?_
        refine R_aload_n e_X12_holds_4.2.2.2.2.1 3 rfl ?_
        refine R_getA 12 0 1 e_X12_holds_4.2.2.2.2.2.1 f_X12_7 km_0 (fun _ _ => rfl) rm_0_0 (by decide) ?_
        refine R_iload_n e_X12_holds_4.2.2.2.2.2.2.1 4 rfl ?_
        refine R_iconst e_X12_holds_4.2.2.2.2.2.2.2.1 ?_
        refine R_iadd e_X12_holds_4.2.2.2.2.2.2.2.2.1 ?_
        obtain ⟨q18, h⟩ := h
        refine R_iald 3598 e_X12_holds_4.2.2.2.2.2.2.2.2.2 kma_1 q18 ?_
        obtain ⟨q19, h⟩ := h
        obtain ⟨q20, h⟩ := h
        refine R_icmp_ge 86 e_X12_holds_5.1 (by decide) q19 q20 (fun q => ?_) (fun q => ?_)
        · replace h := h.1 q
          refine R_iconst e_X12_holds_5.2.2.2.1 ?_
          refine R_goto 142 e_X12_holds_5.2.2.2.2.1 (by decide) ?_
          exact R_zreturn e_X12_holds_8.2.2.2.2.2.2 rfl (Or.inl rfl) h
        · replace h := h.2 q
          refine R_iconst e_X12_holds_5.2.1 ?_
          refine R_goto 142 e_X12_holds_5.2.2.1 (by decide) ?_
          exact R_zreturn e_X12_holds_8.2.2.2.2.2.2 rfl (Or.inr rfl) h
    · replace h := h.2 q
      refine R_aload_n e_X12_holds_2.2.2.2.2.1 2 rfl ?_
      refine R_iload_n e_X12_holds_2.2.2.2.2.2.1 0 rfl ?_
      refine R_aload_n e_X12_holds_2.2.2.2.2.2.2.1 2 rfl ?_
      refine R_callV (mc := 0) (ms := 0) (mc' := 0) (ms' := 0) (M' := M_X12_now) (d' := 0) (as := []) (st := [vI (σ 1 (l1 + 1)), vA G 0]) 12 0 e_X12_holds_2.2.2.2.2.2.2.2.1 (kCVof m_X12_now l_X12_325) rfl (by decide) km_0 (by decide) (by decide) rfl rfl (by show (2 : Nat) ≤ 8; decide) ?_
      obtain ⟨q23, h⟩ := h
      refine S_X12_now ⟨q23, ?_⟩
      refine R_eqs (st2 := [vI ((σ 1 7) % 12), vI (σ 1 (l1 + 1)), vA G 0]) (σ2 := σ) rfl rfl ?_
      obtain ⟨q26, h⟩ := h
      refine R_callV (mc := 0) (ms := 0) (mc' := 0) (ms' := 0) (M' := M_X12_isUp) (d' := 3) (as := [vI (σ 1 (l1 + 1)), vI ((σ 1 7) % 12)]) (st := []) 12 2 e_X12_holds_2.2.2.2.2.2.2.2.2.1 (kCVof m_X12_isUp l_X12_319) rfl (by decide) km_0 (by decide) (by decide) rfl rfl (by show (0 : Nat) ≤ 8; decide) ?_
      refine Run.mono (P_X12_isUp q26) (fun r s e => ?_)
      obtain ⟨e1, e2⟩ := e
      refine R_eqs (st2 := [vI (kb (sUp (σ 1) ((σ 1 (l1 + 1))) (((σ 1 7) % 12))))]) (σ2 := σ) (by rw [e1]; rfl) e2 ?_
      exact R_zreturn e_X12_holds_2.2.2.2.2.2.2.2.2.2 rfl (kb_01 _) h
  · replace h := h.2 q
    refine R_aload_n e_X12_holds_1.2.2.2.2.2.2.2.1 2 rfl ?_
    refine R_iload_n e_X12_holds_1.2.2.2.2.2.2.2.2.1 0 rfl ?_
    obtain ⟨q29, h⟩ := h
    refine R_callV (mc := 0) (ms := 0) (mc' := 0) (ms' := 0) (M' := M_X12_isRipe) (d' := 1) (as := [vI (σ 1 (l1 + 1))]) (st := []) 12 1 e_X12_holds_1.2.2.2.2.2.2.2.2.2 (kCVof m_X12_isRipe l_X12_331) rfl (by decide) km_0 (by decide) (by decide) rfl rfl (by show (0 : Nat) ≤ 8; decide) ?_
    refine Run.mono (P_X12_isRipe q29) (fun r s e => ?_)
    obtain ⟨e1, e2⟩ := e
    refine R_eqs (st2 := [vI (kb ((σ 1) (88 + 4 * ((σ 1 (l1 + 1))) + 2) ≤ (σ 1) (88 + 4 * ((σ 1 (l1 + 1))) + 3)))]) (σ2 := σ) (by rw [e1]; rfl) e2 ?_
    exact R_zreturn e_X12_holds_2.1 rfl (kb_01 _) h
/-! KiteLandModel.behindEnds(I)I -/
theorem e_X12_behindEnds_0 : decode cX12_behindEnds 0 = .ok (.iload_n 1, 1) ∧ decode cX12_behindEnds 1 = .ok (.istore_n 2, 1) ∧ decode cX12_behindEnds 2 = .ok (.iload_n 2, 1) ∧ decode cX12_behindEnds 3 = .ok (.aload_n 0, 1) ∧ decode cX12_behindEnds 4 = .ok (.getfield 7, 3) ∧ decode cX12_behindEnds 7 = .ok (.bipush 8, 2) ∧ decode cX12_behindEnds 9 = .ok (.iaload, 1) ∧ decode cX12_behindEnds 10 = .ok (.if_icmp .ge 108, 3) ∧ decode cX12_behindEnds 13 = .ok (.aload_n 0, 1) ∧ decode cX12_behindEnds 14 = .ok (.getfield 7, 3) := by decide +kernel
theorem e_X12_behindEnds_1 : decode cX12_behindEnds 17 = .ok (.sipush 150, 3) ∧ decode cX12_behindEnds 20 = .ok (.bipush 6, 2) ∧ decode cX12_behindEnds 22 = .ok (.iload_n 2, 1) ∧ decode cX12_behindEnds 23 = .ok (.imul, 1) ∧ decode cX12_behindEnds 24 = .ok (.iadd, 1) ∧ decode cX12_behindEnds 25 = .ok (.iaload, 1) ∧ decode cX12_behindEnds 26 = .ok (.bipush 22, 2) ∧ decode cX12_behindEnds 28 = .ok (.if_icmp .ne 90, 3) ∧ decode cX12_behindEnds 31 = .ok (.aload_n 0, 1) ∧ decode cX12_behindEnds 32 = .ok (.getfield 7, 3) := by decide +kernel
theorem e_X12_behindEnds_2 : decode cX12_behindEnds 35 = .ok (.sipush 150, 3) ∧ decode cX12_behindEnds 38 = .ok (.bipush 6, 2) ∧ decode cX12_behindEnds 40 = .ok (.iload_n 2, 1) ∧ decode cX12_behindEnds 41 = .ok (.imul, 1) ∧ decode cX12_behindEnds 42 = .ok (.iadd, 1) ∧ decode cX12_behindEnds 43 = .ok (.iconst 4, 1) ∧ decode cX12_behindEnds 44 = .ok (.iadd, 1) ∧ decode cX12_behindEnds 45 = .ok (.iaload, 1) ∧ decode cX12_behindEnds 46 = .ok (.istore_n 3, 1) ∧ decode cX12_behindEnds 47 = .ok (.aload_n 0, 1) := by decide +kernel
theorem e_X12_behindEnds_3 : decode cX12_behindEnds 48 = .ok (.getfield 7, 3) ∧ decode cX12_behindEnds 51 = .ok (.sipush 150, 3) ∧ decode cX12_behindEnds 54 = .ok (.bipush 6, 2) ∧ decode cX12_behindEnds 56 = .ok (.iload_n 3, 1) ∧ decode cX12_behindEnds 57 = .ok (.imul, 1) ∧ decode cX12_behindEnds 58 = .ok (.iadd, 1) ∧ decode cX12_behindEnds 59 = .ok (.iaload, 1) ∧ decode cX12_behindEnds 60 = .ok (.bipush 21, 2) ∧ decode cX12_behindEnds 62 = .ok (.if_icmp .ne 16, 3) ∧ decode cX12_behindEnds 65 = .ok (.aload_n 0, 1) := by decide +kernel
theorem e_X12_behindEnds_4 : decode cX12_behindEnds 66 = .ok (.getfield 74, 3) ∧ decode cX12_behindEnds 69 = .ok (.iload_n 3, 1) ∧ decode cX12_behindEnds 70 = .ok (.iaload, 1) ∧ decode cX12_behindEnds 71 = .ok (.ifCond .le 7, 3) ∧ decode cX12_behindEnds 74 = .ok (.iconst 1, 1) ∧ decode cX12_behindEnds 75 = .ok (.goto 4, 3) ∧ decode cX12_behindEnds 78 = .ok (.iconst 0, 1) ∧ decode cX12_behindEnds 79 = .ok (.istore 4, 2) ∧ decode cX12_behindEnds 81 = .ok (.aload_n 0, 1) ∧ decode cX12_behindEnds 82 = .ok (.getfield 74, 3) := by decide +kernel
theorem e_X12_behindEnds_5 : decode cX12_behindEnds 85 = .ok (.iload_n 3, 1) ∧ decode cX12_behindEnds 86 = .ok (.dup2, 1) ∧ decode cX12_behindEnds 87 = .ok (.iaload, 1) ∧ decode cX12_behindEnds 88 = .ok (.iload 4, 2) ∧ decode cX12_behindEnds 90 = .ok (.ifCond .eq 7, 3) ∧ decode cX12_behindEnds 93 = .ok (.iconst 1, 1) ∧ decode cX12_behindEnds 94 = .ok (.goto 4, 3) ∧ decode cX12_behindEnds 97 = .ok (.iconst 0, 1) ∧ decode cX12_behindEnds 98 = .ok (.isub, 1) ∧ decode cX12_behindEnds 99 = .ok (.iastore, 1) := by decide +kernel
theorem e_X12_behindEnds_6 : decode cX12_behindEnds 100 = .ok (.iload 4, 2) ∧ decode cX12_behindEnds 102 = .ok (.ifCond .eq 9, 3) ∧ decode cX12_behindEnds 105 = .ok (.iload_n 3, 1) ∧ decode cX12_behindEnds 106 = .ok (.iconst 1, 1) ∧ decode cX12_behindEnds 107 = .ok (.iadd, 1) ∧ decode cX12_behindEnds 108 = .ok (.goto 6, 3) ∧ decode cX12_behindEnds 111 = .ok (.iload_n 2, 1) ∧ decode cX12_behindEnds 112 = .ok (.iconst 1, 1) ∧ decode cX12_behindEnds 113 = .ok (.iadd, 1) ∧ decode cX12_behindEnds 114 = .ok (.istore_n 2, 1) := by decide +kernel
theorem e_X12_behindEnds_7 : decode cX12_behindEnds 115 = .ok (.goto (-113), 3) ∧ decode cX12_behindEnds 118 = .ok (.iload_n 2, 1) ∧ decode cX12_behindEnds 119 = .ok (.ireturn, 1) := by decide +kernel
abbrev E_X12_behindEnds_2 (G : Kg) (l2 : Int) (σ : Kmem) (Q : Int → Kmem → Prop) : Prop := Ex G WM M_X12_behindEnds 0 0 0 2 [(0, vA G 0), (2, vI l2)] [] σ Q
abbrev E_X12_behindEnds_79 (G : Kg) (l2 l3 p0 : Int) (σ : Kmem) (Q : Int → Kmem → Prop) : Prop := Ex G WM M_X12_behindEnds 0 0 0 79 [(0, vA G 0), (2, vI l2), (3, vI l3)] [vI p0] σ Q
theorem S_X12_behindEnds {G : Kg} {σ : Kmem} {Q : Int → Kmem → Prop} {l1 : Int}  (h : E_X12_behindEnds_2 G l1 σ Q) : Run G WM M_X12_behindEnds 0 0 0 [vA G 0, vI l1] σ Q := by
  refine Run.of (by decide +kernel) (by show (2 : Nat) ≤ 5; decide) ?_
  show Ex G WM M_X12_behindEnds 0 0 0 0 [(0, vA G 0), (1, vI l1)] [] σ Q
  refine R_iload_n e_X12_behindEnds_0.1 1 rfl ?_
  refine R_istore_n (ls2 := [(2, vI l1), (0, vA G 0), (1, vI l1)]) e_X12_behindEnds_0.2.1 (by decide) rfl ?_
  refine R_ls (ls2 := [(0, vA G 0), (2, vI l1)]) [1, 0] rfl ?_
  exact h
theorem S_X12_behindEnds_2 {G : Kg} {σ : Kmem} {Q : Int → Kmem → Prop} {l1 l2 : Int}  (h : (rI l2) ∧ (rI (σ 1 8)) ∧ ((σ 1 8 ≤ l2 → Q l2 σ) ∧ (l2 < σ 1 8 → (0 ≤ 150 + (6 * l2) ∧ 150 + (6 * l2) < 3598) ∧ (rI (σ 1 (150 + (6 * l2)))) ∧ ((σ 1 (150 + (6 * l2)) ≠ 22 → Q l2 σ) ∧ (σ 1 (150 + (6 * l2)) = 22 → (0 ≤ (150 + (6 * l2)) + 4 ∧ (150 + (6 * l2)) + 4 < 3598) ∧ (0 ≤ 150 + (6 * (σ 1 ((150 + (6 * l2)) + 4))) ∧ 150 + (6 * (σ 1 ((150 + (6 * l2)) + 4))) < 3598) ∧ (rI (σ 1 (150 + (6 * (σ 1 ((150 + (6 * l2)) + 4)))))) ∧ ((σ 1 (150 + (6 * (σ 1 ((150 + (6 * l2)) + 4)))) ≠ 21 → E_X12_behindEnds_79 G l2 (σ 1 ((150 + (6 * l2)) + 4)) 0 σ Q) ∧ (σ 1 (150 + (6 * (σ 1 ((150 + (6 * l2)) + 4)))) = 21 → (0 ≤ σ 1 ((150 + (6 * l2)) + 4) ∧ σ 1 ((150 + (6 * l2)) + 4) < 80) ∧ (rI (σ 18 (σ 1 ((150 + (6 * l2)) + 4)))) ∧ ((σ 18 (σ 1 ((150 + (6 * l2)) + 4)) ≤ 0 → E_X12_behindEnds_79 G l2 (σ 1 ((150 + (6 * l2)) + 4)) 0 σ Q) ∧ (0 < σ 18 (σ 1 ((150 + (6 * l2)) + 4)) → E_X12_behindEnds_79 G l2 (σ 1 ((150 + (6 * l2)) + 4)) 1 σ Q))))))))) : E_X12_behindEnds_2 G l2 σ Q := by
  refine R_iload_n e_X12_behindEnds_0.2.2.1 1 rfl ?_
  refine R_aload_n e_X12_behindEnds_0.2.2.2.1 0 rfl ?_
  refine R_getA 12 0 1 e_X12_behindEnds_0.2.2.2.2.1 f_X12_7 km_0 (fun _ _ => rfl) rm_0_0 (by decide) ?_
  refine R_bipush e_X12_behindEnds_0.2.2.2.2.2.1 (by decide) ?_
  refine R_iald 3598 e_X12_behindEnds_0.2.2.2.2.2.2.1 kma_1 (by decide) ?_
  obtain ⟨q1, h⟩ := h
  obtain ⟨q2, h⟩ := h
  refine R_icmp_ge 118 e_X12_behindEnds_0.2.2.2.2.2.2.2.1 (by decide) q1 q2 (fun q => ?_) (fun q => ?_)
  · replace h := h.1 q
    refine R_iload_n e_X12_behindEnds_7.2.1 1 rfl ?_
    exact R_ireturn e_X12_behindEnds_7.2.2 rfl h
  · replace h := h.2 q
    refine R_aload_n e_X12_behindEnds_0.2.2.2.2.2.2.2.2.1 0 rfl ?_
    refine R_getA 12 0 1 e_X12_behindEnds_0.2.2.2.2.2.2.2.2.2 f_X12_7 km_0 (fun _ _ => rfl) rm_0_0 (by decide) ?_
    refine R_sipush e_X12_behindEnds_1.1 (by decide) ?_
    refine R_bipush e_X12_behindEnds_1.2.1 (by decide) ?_
    refine R_iload_n e_X12_behindEnds_1.2.2.1 1 rfl ?_
    refine R_imul e_X12_behindEnds_1.2.2.2.1 ?_
    refine R_iadd e_X12_behindEnds_1.2.2.2.2.1 ?_
    obtain ⟨q3, h⟩ := h
    refine R_iald 3598 e_X12_behindEnds_1.2.2.2.2.2.1 kma_1 q3 ?_
    refine R_bipush e_X12_behindEnds_1.2.2.2.2.2.2.1 (by decide) ?_
    obtain ⟨q4, h⟩ := h
    refine R_icmp_ne 118 e_X12_behindEnds_1.2.2.2.2.2.2.2.1 (by decide) q4 (by decide) (fun q => ?_) (fun q => ?_)
    · replace h := h.1 q
      refine R_iload_n e_X12_behindEnds_7.2.1 1 rfl ?_
      exact R_ireturn e_X12_behindEnds_7.2.2 rfl h
    · replace h := h.2 q
      refine R_aload_n e_X12_behindEnds_1.2.2.2.2.2.2.2.2.1 0 rfl ?_
      refine R_getA 12 0 1 e_X12_behindEnds_1.2.2.2.2.2.2.2.2.2 f_X12_7 km_0 (fun _ _ => rfl) rm_0_0 (by decide) ?_
      refine R_sipush e_X12_behindEnds_2.1 (by decide) ?_
      refine R_bipush e_X12_behindEnds_2.2.1 (by decide) ?_
      refine R_iload_n e_X12_behindEnds_2.2.2.1 1 rfl ?_
      refine R_imul e_X12_behindEnds_2.2.2.2.1 ?_
      refine R_iadd e_X12_behindEnds_2.2.2.2.2.1 ?_
      refine R_iconst e_X12_behindEnds_2.2.2.2.2.2.1 ?_
      refine R_iadd e_X12_behindEnds_2.2.2.2.2.2.2.1 ?_
      obtain ⟨q5, h⟩ := h
      refine R_iald 3598 e_X12_behindEnds_2.2.2.2.2.2.2.2.1 kma_1 q5 ?_
      refine R_istore_n (ls2 := [(3, vI (σ 1 ((150 + (6 * l2)) + 4))), (0, vA G 0), (2, vI l2)]) e_X12_behindEnds_2.2.2.2.2.2.2.2.2.1 (by decide) rfl ?_
      refine R_aload_n e_X12_behindEnds_2.2.2.2.2.2.2.2.2.2 1 rfl ?_
      refine R_getA 12 0 1 e_X12_behindEnds_3.1 f_X12_7 km_0 (fun _ _ => rfl) rm_0_0 (by decide) ?_
      refine R_sipush e_X12_behindEnds_3.2.1 (by decide) ?_
      refine R_bipush e_X12_behindEnds_3.2.2.1 (by decide) ?_
      refine R_iload_n e_X12_behindEnds_3.2.2.2.1 0 rfl ?_
      refine R_imul e_X12_behindEnds_3.2.2.2.2.1 ?_
      refine R_iadd e_X12_behindEnds_3.2.2.2.2.2.1 ?_
      obtain ⟨q6, h⟩ := h
      refine R_iald 3598 e_X12_behindEnds_3.2.2.2.2.2.2.1 kma_1 q6 ?_
      refine R_bipush e_X12_behindEnds_3.2.2.2.2.2.2.2.1 (by decide) ?_
      obtain ⟨q7, h⟩ := h
      refine R_icmp_ne 78 e_X12_behindEnds_3.2.2.2.2.2.2.2.2.1 (by decide) q7 (by decide) (fun q => ?_) (fun q => ?_)
      · replace h := h.1 q
        refine R_iconst e_X12_behindEnds_4.2.2.2.2.2.2.1 ?_
        refine R_ls (ls2 := [(0, vA G 0), (2, vI l2), (3, vI (σ 1 ((150 + (6 * l2)) + 4)))]) [1, 2, 0] rfl ?_
        exact h
      · replace h := h.2 q
        refine R_aload_n e_X12_behindEnds_3.2.2.2.2.2.2.2.2.2 1 rfl ?_
        refine R_getA 12 37 18 e_X12_behindEnds_4.1 f_X12_74 km_0 (fun _ _ => rfl) rm_0_37 (by decide) ?_
        refine R_iload_n e_X12_behindEnds_4.2.1 0 rfl ?_
        obtain ⟨q8, h⟩ := h
        refine R_iald 80 e_X12_behindEnds_4.2.2.1 kma_18 q8 ?_
        obtain ⟨q9, h⟩ := h
        refine R_if_le 78 e_X12_behindEnds_4.2.2.2.1 (by decide) q9  (fun q => ?_) (fun q => ?_)
        · replace h := h.1 q
          refine R_iconst e_X12_behindEnds_4.2.2.2.2.2.2.1 ?_
          refine R_ls (ls2 := [(0, vA G 0), (2, vI l2), (3, vI (σ 1 ((150 + (6 * l2)) + 4)))]) [1, 2, 0] rfl ?_
          exact h
        · replace h := h.2 q
          refine R_iconst e_X12_behindEnds_4.2.2.2.2.1 ?_
          refine R_goto 79 e_X12_behindEnds_4.2.2.2.2.2.1 (by decide) ?_
          refine R_ls (ls2 := [(0, vA G 0), (2, vI l2), (3, vI (σ 1 ((150 + (6 * l2)) + 4)))]) [1, 2, 0] rfl ?_
          exact h
theorem S_X12_behindEnds_79 {G : Kg} {σ : Kmem} {Q : Int → Kmem → Prop} {l1 l2 l3 p0 : Int}  (h : (0 ≤ l3 ∧ l3 < 80) ∧ (rI p0) ∧ ((p0 = 0 → (0 ≤ l3 ∧ l3 < 80) ∧ ((p0 = 0 → E_X12_behindEnds_2 G (l2 + 1) (kup σ 18 l3 ((σ 18 l3) - 0)) Q) ∧ (p0 ≠ 0 → E_X12_behindEnds_2 G (l3 + 1) (kup σ 18 l3 ((σ 18 l3) - 0)) Q))) ∧ (p0 ≠ 0 → (0 ≤ l3 ∧ l3 < 80) ∧ ((p0 = 0 → E_X12_behindEnds_2 G (l2 + 1) (kup σ 18 l3 ((σ 18 l3) - 1)) Q) ∧ (p0 ≠ 0 → E_X12_behindEnds_2 G (l3 + 1) (kup σ 18 l3 ((σ 18 l3) - 1)) Q))))) : E_X12_behindEnds_79 G l2 l3 p0 σ Q := by
  refine R_istore (ls2 := [(4, vI p0), (0, vA G 0), (2, vI l2), (3, vI l3)]) e_X12_behindEnds_4.2.2.2.2.2.2.2.1 (by decide) rfl ?_
  refine R_aload_n e_X12_behindEnds_4.2.2.2.2.2.2.2.2.1 1 rfl ?_
  refine R_getA 12 37 18 e_X12_behindEnds_4.2.2.2.2.2.2.2.2.2 f_X12_74 km_0 (fun _ _ => rfl) rm_0_37 (by decide) ?_
  refine R_iload_n e_X12_behindEnds_5.1 3 rfl ?_
  refine R_dup2 e_X12_behindEnds_5.2.1 rfl rfl ?_
  obtain ⟨q10, h⟩ := h
  refine R_iald 80 e_X12_behindEnds_5.2.2.1 kma_18 q10 ?_
  refine R_iload e_X12_behindEnds_5.2.2.2.1 0 rfl ?_
  obtain ⟨q11, h⟩ := h
  refine R_if_eq 97 e_X12_behindEnds_5.2.2.2.2.1 (by decide) q11  (fun q => ?_) (fun q => ?_)
  · replace h := h.1 q
    refine R_iconst e_X12_behindEnds_5.2.2.2.2.2.2.2.1 ?_
    refine R_isub e_X12_behindEnds_5.2.2.2.2.2.2.2.2.1 ?_
    obtain ⟨q12, h⟩ := h
    refine R_iast 80 WM_ok e_X12_behindEnds_5.2.2.2.2.2.2.2.2.2 kma_18 q12 ?_
    refine R_iload e_X12_behindEnds_6.1 0 rfl ?_
    refine R_if_eq 111 e_X12_behindEnds_6.2.1 (by decide) q11  (fun q => ?_) (fun q => ?_)
    · replace h := h.1 q
      refine R_iload_n e_X12_behindEnds_6.2.2.2.2.2.2.1 2 rfl ?_
      refine R_iconst e_X12_behindEnds_6.2.2.2.2.2.2.2.1 ?_
      refine R_iadd e_X12_behindEnds_6.2.2.2.2.2.2.2.2.1 ?_
      refine R_istore_n (ls2 := [(2, vI (l2 + 1)), (4, vI p0), (0, vA G 0), (3, vI l3)]) e_X12_behindEnds_6.2.2.2.2.2.2.2.2.2 (by decide) rfl ?_
      refine R_goto 2 e_X12_behindEnds_7.1 (by decide) ?_
      refine R_ls (ls2 := [(0, vA G 0), (2, vI (l2 + 1))]) [2, 0] rfl ?_
      exact h
    · replace h := h.2 q
      refine R_iload_n e_X12_behindEnds_6.2.2.1 3 rfl ?_
      refine R_iconst e_X12_behindEnds_6.2.2.2.1 ?_
      refine R_iadd e_X12_behindEnds_6.2.2.2.2.1 ?_
      refine R_goto 114 e_X12_behindEnds_6.2.2.2.2.2.1 (by decide) ?_
      refine R_istore_n (ls2 := [(2, vI (l3 + 1)), (4, vI p0), (0, vA G 0), (3, vI l3)]) e_X12_behindEnds_6.2.2.2.2.2.2.2.2.2 (by decide) rfl ?_
      refine R_goto 2 e_X12_behindEnds_7.1 (by decide) ?_
      refine R_ls (ls2 := [(0, vA G 0), (2, vI (l3 + 1))]) [2, 0] rfl ?_
      exact h
  · replace h := h.2 q
    refine R_iconst e_X12_behindEnds_5.2.2.2.2.2.1 ?_
    refine R_goto 98 e_X12_behindEnds_5.2.2.2.2.2.2.1 (by decide) ?_
    refine R_isub e_X12_behindEnds_5.2.2.2.2.2.2.2.2.1 ?_
    obtain ⟨q13, h⟩ := h
    refine R_iast 80 WM_ok e_X12_behindEnds_5.2.2.2.2.2.2.2.2.2 kma_18 q13 ?_
    refine R_iload e_X12_behindEnds_6.1 0 rfl ?_
    refine R_if_eq 111 e_X12_behindEnds_6.2.1 (by decide) q11  (fun q => ?_) (fun q => ?_)
    · replace h := h.1 q
      refine R_iload_n e_X12_behindEnds_6.2.2.2.2.2.2.1 2 rfl ?_
      refine R_iconst e_X12_behindEnds_6.2.2.2.2.2.2.2.1 ?_
      refine R_iadd e_X12_behindEnds_6.2.2.2.2.2.2.2.2.1 ?_
      refine R_istore_n (ls2 := [(2, vI (l2 + 1)), (4, vI p0), (0, vA G 0), (3, vI l3)]) e_X12_behindEnds_6.2.2.2.2.2.2.2.2.2 (by decide) rfl ?_
      refine R_goto 2 e_X12_behindEnds_7.1 (by decide) ?_
      refine R_ls (ls2 := [(0, vA G 0), (2, vI (l2 + 1))]) [2, 0] rfl ?_
      exact h
    · replace h := h.2 q
      refine R_iload_n e_X12_behindEnds_6.2.2.1 3 rfl ?_
      refine R_iconst e_X12_behindEnds_6.2.2.2.1 ?_
      refine R_iadd e_X12_behindEnds_6.2.2.2.2.1 ?_
      refine R_goto 114 e_X12_behindEnds_6.2.2.2.2.2.1 (by decide) ?_
      refine R_istore_n (ls2 := [(2, vI (l3 + 1)), (4, vI p0), (0, vA G 0), (3, vI l3)]) e_X12_behindEnds_6.2.2.2.2.2.2.2.2.2 (by decide) rfl ?_
      refine R_goto 2 e_X12_behindEnds_7.1 (by decide) ?_
      refine R_ls (ls2 := [(0, vA G 0), (2, vI (l3 + 1))]) [2, 0] rfl ?_
      exact h
/-! KiteLandModel.copies(II)V -/
theorem e_X12_copies_0 : decode cX12_copies 0 = .ok (.iconst 0, 1) ∧ decode cX12_copies 1 = .ok (.istore_n 3, 1) ∧ decode cX12_copies 2 = .ok (.iload_n 3, 1) ∧ decode cX12_copies 3 = .ok (.sipush 514, 3) ∧ decode cX12_copies 6 = .ok (.if_icmp .ge 33, 3) ∧ decode cX12_copies 9 = .ok (.aload_n 0, 1) ∧ decode cX12_copies 10 = .ok (.getfield 7, 3) ∧ decode cX12_copies 13 = .ok (.sipush 514, 3) ∧ decode cX12_copies 16 = .ok (.iload_n 2, 1) ∧ decode cX12_copies 17 = .ok (.imul, 1) := by decide +kernel
theorem e_X12_copies_1 : decode cX12_copies 18 = .ok (.iload_n 3, 1) ∧ decode cX12_copies 19 = .ok (.iadd, 1) ∧ decode cX12_copies 20 = .ok (.aload_n 0, 1) ∧ decode cX12_copies 21 = .ok (.getfield 7, 3) ∧ decode cX12_copies 24 = .ok (.sipush 514, 3) ∧ decode cX12_copies 27 = .ok (.iload_n 1, 1) ∧ decode cX12_copies 28 = .ok (.imul, 1) ∧ decode cX12_copies 29 = .ok (.iload_n 3, 1) ∧ decode cX12_copies 30 = .ok (.iadd, 1) ∧ decode cX12_copies 31 = .ok (.iaload, 1) := by decide +kernel
theorem e_X12_copies_2 : decode cX12_copies 32 = .ok (.iastore, 1) ∧ decode cX12_copies 33 = .ok (.iinc 3 1, 3) ∧ decode cX12_copies 36 = .ok (.goto (-34), 3) ∧ decode cX12_copies 39 = .ok (.iconst 0, 1) ∧ decode cX12_copies 40 = .ok (.istore_n 3, 1) ∧ decode cX12_copies 41 = .ok (.iload_n 3, 1) ∧ decode cX12_copies 42 = .ok (.bipush 20, 2) ∧ decode cX12_copies 44 = .ok (.if_icmp .ge 31, 3) ∧ decode cX12_copies 47 = .ok (.aload_n 0, 1) ∧ decode cX12_copies 48 = .ok (.getfield 13, 3) := by decide +kernel
theorem e_X12_copies_3 : decode cX12_copies 51 = .ok (.bipush 20, 2) ∧ decode cX12_copies 53 = .ok (.iload_n 2, 1) ∧ decode cX12_copies 54 = .ok (.imul, 1) ∧ decode cX12_copies 55 = .ok (.iload_n 3, 1) ∧ decode cX12_copies 56 = .ok (.iadd, 1) ∧ decode cX12_copies 57 = .ok (.aload_n 0, 1) ∧ decode cX12_copies 58 = .ok (.getfield 13, 3) ∧ decode cX12_copies 61 = .ok (.bipush 20, 2) ∧ decode cX12_copies 63 = .ok (.iload_n 1, 1) ∧ decode cX12_copies 64 = .ok (.imul, 1) := by decide +kernel
theorem e_X12_copies_4 : decode cX12_copies 65 = .ok (.iload_n 3, 1) ∧ decode cX12_copies 66 = .ok (.iadd, 1) ∧ decode cX12_copies 67 = .ok (.laload, 1) ∧ decode cX12_copies 68 = .ok (.lastore, 1) ∧ decode cX12_copies 69 = .ok (.iinc 3 1, 3) ∧ decode cX12_copies 72 = .ok (.goto (-31), 3) ∧ decode cX12_copies 75 = .ok (.return_, 1) := by decide +kernel
abbrev E_X12_copies_2 (G : Kg) (l1 l2 l3 : Int) (σ : Kmem) (Q : Int → Kmem → Prop) : Prop := Ex G WM M_X12_copies 0 0 0 2 [(0, vA G 0), (1, vI l1), (2, vI l2), (3, vI l3)] [] σ Q
abbrev E_X12_copies_41 (G : Kg) (l1 l2 l3 : Int) (σ : Kmem) (Q : Int → Kmem → Prop) : Prop := Ex G WM M_X12_copies 0 0 0 41 [(0, vA G 0), (1, vI l1), (2, vI l2), (3, vI l3)] [] σ Q
theorem S_X12_copies {G : Kg} {σ : Kmem} {Q : Int → Kmem → Prop} {l1 l2 : Int}  (h : E_X12_copies_2 G l1 l2 0 σ Q) : Run G WM M_X12_copies 0 0 0 [vA G 0, vI l1, vI l2] σ Q := by
  refine Run.of (by decide +kernel) (by show (3 : Nat) ≤ 4; decide) ?_
  show Ex G WM M_X12_copies 0 0 0 0 [(0, vA G 0), (1, vI l1), (2, vI l2)] [] σ Q
  refine R_iconst e_X12_copies_0.1 ?_
  refine R_istore_n (ls2 := [(3, vI 0), (0, vA G 0), (1, vI l1), (2, vI l2)]) e_X12_copies_0.2.1 (by decide) rfl ?_
  refine R_ls (ls2 := [(0, vA G 0), (1, vI l1), (2, vI l2), (3, vI 0)]) [1, 2, 3, 0] rfl ?_
  exact h
theorem S_X12_copies_2 {G : Kg} {σ : Kmem} {Q : Int → Kmem → Prop} {l1 l2 l3 : Int}  (h : (rI l3) ∧ ((514 ≤ l3 → E_X12_copies_41 G l1 l2 0 σ Q) ∧ (l3 < 514 → (0 ≤ (514 * l1) + l3 ∧ (514 * l1) + l3 < 3598) ∧ (0 ≤ (514 * l2) + l3 ∧ (514 * l2) + l3 < 3598) ∧ E_X12_copies_2 G l1 l2 (l3 + 1) (kup σ 1 ((514 * l2) + l3) (σ 1 ((514 * l1) + l3))) Q))) : E_X12_copies_2 G l1 l2 l3 σ Q := by
  refine R_iload_n e_X12_copies_0.2.2.1 3 rfl ?_
  refine R_sipush e_X12_copies_0.2.2.2.1 (by decide) ?_
  obtain ⟨q1, h⟩ := h
  refine R_icmp_ge 39 e_X12_copies_0.2.2.2.2.1 (by decide) q1 (by decide) (fun q => ?_) (fun q => ?_)
  · replace h := h.1 q
    refine R_iconst e_X12_copies_2.2.2.2.1 ?_
    refine R_istore_n (ls2 := [(3, vI 0), (0, vA G 0), (1, vI l1), (2, vI l2)]) e_X12_copies_2.2.2.2.2.1 (by decide) rfl ?_
    refine R_ls (ls2 := [(0, vA G 0), (1, vI l1), (2, vI l2), (3, vI 0)]) [1, 2, 3, 0] rfl ?_
    exact h
  · replace h := h.2 q
    refine R_aload_n e_X12_copies_0.2.2.2.2.2.1 0 rfl ?_
    refine R_getA 12 0 1 e_X12_copies_0.2.2.2.2.2.2.1 f_X12_7 km_0 (fun _ _ => rfl) rm_0_0 (by decide) ?_
    refine R_sipush e_X12_copies_0.2.2.2.2.2.2.2.1 (by decide) ?_
    refine R_iload_n e_X12_copies_0.2.2.2.2.2.2.2.2.1 2 rfl ?_
    refine R_imul e_X12_copies_0.2.2.2.2.2.2.2.2.2 ?_
    refine R_iload_n e_X12_copies_1.1 3 rfl ?_
    refine R_iadd e_X12_copies_1.2.1 ?_
    refine R_aload_n e_X12_copies_1.2.2.1 0 rfl ?_
    refine R_getA 12 0 1 e_X12_copies_1.2.2.2.1 f_X12_7 km_0 (fun _ _ => rfl) rm_0_0 (by decide) ?_
    refine R_sipush e_X12_copies_1.2.2.2.2.1 (by decide) ?_
    refine R_iload_n e_X12_copies_1.2.2.2.2.2.1 1 rfl ?_
    refine R_imul e_X12_copies_1.2.2.2.2.2.2.1 ?_
    refine R_iload_n e_X12_copies_1.2.2.2.2.2.2.2.1 3 rfl ?_
    refine R_iadd e_X12_copies_1.2.2.2.2.2.2.2.2.1 ?_
    obtain ⟨q2, h⟩ := h
    refine R_iald 3598 e_X12_copies_1.2.2.2.2.2.2.2.2.2 kma_1 q2 ?_
    obtain ⟨q3, h⟩ := h
    refine R_iast 3598 WM_ok e_X12_copies_2.1 kma_1 q3 ?_
    refine R_iinc (ls2 := [(3, vI (l3 + 1)), (0, vA G 0), (1, vI l1), (2, vI l2)]) e_X12_copies_2.2.1 3 rfl (by decide) rfl ?_
    refine R_goto 2 e_X12_copies_2.2.2.1 (by decide) ?_
    refine R_ls (ls2 := [(0, vA G 0), (1, vI l1), (2, vI l2), (3, vI (l3 + 1))]) [1, 2, 3, 0] rfl ?_
    exact h
theorem S_X12_copies_41 {G : Kg} {σ : Kmem} {Q : Int → Kmem → Prop} {l1 l2 l3 : Int}  (h : (rI l3) ∧ ((20 ≤ l3 → Q 0 σ) ∧ (l3 < 20 → (0 ≤ (20 * l1) + l3 ∧ (20 * l1) + l3 < 120) ∧ (0 ≤ (20 * l2) + l3 ∧ (20 * l2) + l3 < 120) ∧ E_X12_copies_41 G l1 l2 (l3 + 1) (kup σ 2 ((20 * l2) + l3) (σ 2 ((20 * l1) + l3))) Q))) : E_X12_copies_41 G l1 l2 l3 σ Q := by
  refine R_iload_n e_X12_copies_2.2.2.2.2.2.1 3 rfl ?_
  refine R_bipush e_X12_copies_2.2.2.2.2.2.2.1 (by decide) ?_
  obtain ⟨q4, h⟩ := h
  refine R_icmp_ge 75 e_X12_copies_2.2.2.2.2.2.2.2.1 (by decide) q4 (by decide) (fun q => ?_) (fun q => ?_)
  · replace h := h.1 q
    exact R_return e_X12_copies_4.2.2.2.2.2.2 rfl h
  · replace h := h.2 q
    refine R_aload_n e_X12_copies_2.2.2.2.2.2.2.2.2.1 0 rfl ?_
    refine R_getA 12 1 2 e_X12_copies_2.2.2.2.2.2.2.2.2.2 f_X12_13 km_0 (fun _ _ => rfl) rm_0_1 (by decide) ?_
    refine R_bipush e_X12_copies_3.1 (by decide) ?_
    refine R_iload_n e_X12_copies_3.2.1 2 rfl ?_
    refine R_imul e_X12_copies_3.2.2.1 ?_
    refine R_iload_n e_X12_copies_3.2.2.2.1 3 rfl ?_
    refine R_iadd e_X12_copies_3.2.2.2.2.1 ?_
    refine R_aload_n e_X12_copies_3.2.2.2.2.2.1 0 rfl ?_
    refine R_getA 12 1 2 e_X12_copies_3.2.2.2.2.2.2.1 f_X12_13 km_0 (fun _ _ => rfl) rm_0_1 (by decide) ?_
    refine R_bipush e_X12_copies_3.2.2.2.2.2.2.2.1 (by decide) ?_
    refine R_iload_n e_X12_copies_3.2.2.2.2.2.2.2.2.1 1 rfl ?_
    refine R_imul e_X12_copies_3.2.2.2.2.2.2.2.2.2 ?_
    refine R_iload_n e_X12_copies_4.1 3 rfl ?_
    refine R_iadd e_X12_copies_4.2.1 ?_
    obtain ⟨q5, h⟩ := h
    refine R_lald 120 e_X12_copies_4.2.2.1 kma_2 q5 ?_
    obtain ⟨q6, h⟩ := h
    refine R_last 120 WM_ok e_X12_copies_4.2.2.2.1 kma_2 q6 ?_
    refine R_iinc (ls2 := [(3, vI (l3 + 1)), (0, vA G 0), (1, vI l1), (2, vI l2)]) e_X12_copies_4.2.2.2.2.1 3 rfl (by decide) rfl ?_
    refine R_goto 41 e_X12_copies_4.2.2.2.2.2.1 (by decide) ?_
    refine R_ls (ls2 := [(0, vA G 0), (1, vI l1), (2, vI l2), (3, vI (l3 + 1))]) [1, 2, 3, 0] rfl ?_
    exact h
/-! KiteLandModel.plain(I)V -/
theorem e_X12_plain_0 : decode cX12_plain 0 = .ok (.iconst 0, 1) ∧ decode cX12_plain 1 = .ok (.istore_n 2, 1) ∧ decode cX12_plain 2 = .ok (.iload_n 2, 1) ∧ decode cX12_plain 3 = .ok (.sipush 514, 3) ∧ decode cX12_plain 6 = .ok (.if_icmp .ge 18, 3) ∧ decode cX12_plain 9 = .ok (.aload_n 0, 1) ∧ decode cX12_plain 10 = .ok (.getfield 7, 3) ∧ decode cX12_plain 13 = .ok (.iload_n 1, 1) ∧ decode cX12_plain 14 = .ok (.iload_n 2, 1) ∧ decode cX12_plain 15 = .ok (.iadd, 1) := by decide +kernel
theorem e_X12_plain_1 : decode cX12_plain 16 = .ok (.iconst 0, 1) ∧ decode cX12_plain 17 = .ok (.iastore, 1) ∧ decode cX12_plain 18 = .ok (.iinc 2 1, 3) ∧ decode cX12_plain 21 = .ok (.goto (-19), 3) ∧ decode cX12_plain 24 = .ok (.aload_n 0, 1) ∧ decode cX12_plain 25 = .ok (.getfield 7, 3) ∧ decode cX12_plain 28 = .ok (.iload_n 1, 1) ∧ decode cX12_plain 29 = .ok (.iconst 5, 1) ∧ decode cX12_plain 30 = .ok (.iadd, 1) ∧ decode cX12_plain 31 = .ok (.bipush 6, 2) := by decide +kernel
theorem e_X12_plain_2 : decode cX12_plain 33 = .ok (.iastore, 1) ∧ decode cX12_plain 34 = .ok (.iconst 0, 1) ∧ decode cX12_plain 35 = .ok (.istore_n 2, 1) ∧ decode cX12_plain 36 = .ok (.iload_n 2, 1) ∧ decode cX12_plain 37 = .ok (.bipush 12, 2) ∧ decode cX12_plain 39 = .ok (.if_icmp .ge 39, 3) ∧ decode cX12_plain 42 = .ok (.aload_n 0, 1) ∧ decode cX12_plain 43 = .ok (.getfield 7, 3) ∧ decode cX12_plain 46 = .ok (.iload_n 1, 1) ∧ decode cX12_plain 47 = .ok (.bipush 10, 2) := by decide +kernel
theorem e_X12_plain_3 : decode cX12_plain 49 = .ok (.iadd, 1) ∧ decode cX12_plain 50 = .ok (.iconst 2, 1) ∧ decode cX12_plain 51 = .ok (.iload_n 2, 1) ∧ decode cX12_plain 52 = .ok (.imul, 1) ∧ decode cX12_plain 53 = .ok (.iadd, 1) ∧ decode cX12_plain 54 = .ok (.iconst 2, 1) ∧ decode cX12_plain 55 = .ok (.iastore, 1) ∧ decode cX12_plain 56 = .ok (.aload_n 0, 1) ∧ decode cX12_plain 57 = .ok (.getfield 7, 3) ∧ decode cX12_plain 60 = .ok (.iload_n 1, 1) := by decide +kernel
theorem e_X12_plain_4 : decode cX12_plain 61 = .ok (.bipush 10, 2) ∧ decode cX12_plain 63 = .ok (.iadd, 1) ∧ decode cX12_plain 64 = .ok (.iconst 2, 1) ∧ decode cX12_plain 65 = .ok (.iload_n 2, 1) ∧ decode cX12_plain 66 = .ok (.imul, 1) ∧ decode cX12_plain 67 = .ok (.iadd, 1) ∧ decode cX12_plain 68 = .ok (.iconst 1, 1) ∧ decode cX12_plain 69 = .ok (.iadd, 1) ∧ decode cX12_plain 70 = .ok (.iconst 2, 1) ∧ decode cX12_plain 71 = .ok (.iastore, 1) := by decide +kernel
theorem e_X12_plain_5 : decode cX12_plain 72 = .ok (.iinc 2 1, 3) ∧ decode cX12_plain 75 = .ok (.goto (-39), 3) ∧ decode cX12_plain 78 = .ok (.aload_n 0, 1) ∧ decode cX12_plain 79 = .ok (.getfield 7, 3) ∧ decode cX12_plain 82 = .ok (.iload_n 1, 1) ∧ decode cX12_plain 83 = .ok (.bipush 8, 2) ∧ decode cX12_plain 85 = .ok (.iadd, 1) ∧ decode cX12_plain 86 = .ok (.iconst (-1), 1) ∧ decode cX12_plain 87 = .ok (.iastore, 1) ∧ decode cX12_plain 88 = .ok (.return_, 1) := by decide +kernel
abbrev E_X12_plain_2 (G : Kg) (l1 l2 : Int) (σ : Kmem) (Q : Int → Kmem → Prop) : Prop := Ex G WM M_X12_plain 0 0 0 2 [(0, vA G 0), (1, vI l1), (2, vI l2)] [] σ Q
abbrev E_X12_plain_36 (G : Kg) (l1 l2 : Int) (σ : Kmem) (Q : Int → Kmem → Prop) : Prop := Ex G WM M_X12_plain 0 0 0 36 [(0, vA G 0), (1, vI l1), (2, vI l2)] [] σ Q
theorem S_X12_plain {G : Kg} {σ : Kmem} {Q : Int → Kmem → Prop} {l1 : Int}  (h : E_X12_plain_2 G l1 0 σ Q) : Run G WM M_X12_plain 0 0 0 [vA G 0, vI l1] σ Q := by
  refine Run.of (by decide +kernel) (by show (2 : Nat) ≤ 3; decide) ?_
  show Ex G WM M_X12_plain 0 0 0 0 [(0, vA G 0), (1, vI l1)] [] σ Q
  refine R_iconst e_X12_plain_0.1 ?_
  refine R_istore_n (ls2 := [(2, vI 0), (0, vA G 0), (1, vI l1)]) e_X12_plain_0.2.1 (by decide) rfl ?_
  refine R_ls (ls2 := [(0, vA G 0), (1, vI l1), (2, vI 0)]) [1, 2, 0] rfl ?_
  exact h
theorem S_X12_plain_2 {G : Kg} {σ : Kmem} {Q : Int → Kmem → Prop} {l1 l2 : Int}  (h : (rI l2) ∧ ((514 ≤ l2 → (0 ≤ l1 + 5 ∧ l1 + 5 < 3598) ∧ E_X12_plain_36 G l1 0 (kup σ 1 (l1 + 5) 6) Q) ∧ (l2 < 514 → (0 ≤ l1 + l2 ∧ l1 + l2 < 3598) ∧ E_X12_plain_2 G l1 (l2 + 1) (kup σ 1 (l1 + l2) 0) Q))) : E_X12_plain_2 G l1 l2 σ Q := by
  refine R_iload_n e_X12_plain_0.2.2.1 2 rfl ?_
  refine R_sipush e_X12_plain_0.2.2.2.1 (by decide) ?_
  obtain ⟨q1, h⟩ := h
  refine R_icmp_ge 24 e_X12_plain_0.2.2.2.2.1 (by decide) q1 (by decide) (fun q => ?_) (fun q => ?_)
  · replace h := h.1 q
    refine R_aload_n e_X12_plain_1.2.2.2.2.1 0 rfl ?_
    refine R_getA 12 0 1 e_X12_plain_1.2.2.2.2.2.1 f_X12_7 km_0 (fun _ _ => rfl) rm_0_0 (by decide) ?_
    refine R_iload_n e_X12_plain_1.2.2.2.2.2.2.1 1 rfl ?_
    refine R_iconst e_X12_plain_1.2.2.2.2.2.2.2.1 ?_
    refine R_iadd e_X12_plain_1.2.2.2.2.2.2.2.2.1 ?_
    refine R_bipush e_X12_plain_1.2.2.2.2.2.2.2.2.2 (by decide) ?_
    obtain ⟨q2, h⟩ := h
    refine R_iast 3598 WM_ok e_X12_plain_2.1 kma_1 q2 ?_
    refine R_iconst e_X12_plain_2.2.1 ?_
    refine R_istore_n (ls2 := [(2, vI 0), (0, vA G 0), (1, vI l1)]) e_X12_plain_2.2.2.1 (by decide) rfl ?_
    refine R_ls (ls2 := [(0, vA G 0), (1, vI l1), (2, vI 0)]) [1, 2, 0] rfl ?_
    exact h
  · replace h := h.2 q
    refine R_aload_n e_X12_plain_0.2.2.2.2.2.1 0 rfl ?_
    refine R_getA 12 0 1 e_X12_plain_0.2.2.2.2.2.2.1 f_X12_7 km_0 (fun _ _ => rfl) rm_0_0 (by decide) ?_
    refine R_iload_n e_X12_plain_0.2.2.2.2.2.2.2.1 1 rfl ?_
    refine R_iload_n e_X12_plain_0.2.2.2.2.2.2.2.2.1 2 rfl ?_
    refine R_iadd e_X12_plain_0.2.2.2.2.2.2.2.2.2 ?_
    refine R_iconst e_X12_plain_1.1 ?_
    obtain ⟨q3, h⟩ := h
    refine R_iast 3598 WM_ok e_X12_plain_1.2.1 kma_1 q3 ?_
    refine R_iinc (ls2 := [(2, vI (l2 + 1)), (0, vA G 0), (1, vI l1)]) e_X12_plain_1.2.2.1 2 rfl (by decide) rfl ?_
    refine R_goto 2 e_X12_plain_1.2.2.2.1 (by decide) ?_
    refine R_ls (ls2 := [(0, vA G 0), (1, vI l1), (2, vI (l2 + 1))]) [1, 2, 0] rfl ?_
    exact h
theorem S_X12_plain_36 {G : Kg} {σ : Kmem} {Q : Int → Kmem → Prop} {l1 l2 : Int}  (h : (rI l2) ∧ ((12 ≤ l2 → (0 ≤ l1 + 8 ∧ l1 + 8 < 3598) ∧ Q 0 (kup σ 1 (l1 + 8) (-1))) ∧ (l2 < 12 → (0 ≤ (l1 + 10) + (2 * l2) ∧ (l1 + 10) + (2 * l2) < 3598) ∧ (0 ≤ ((l1 + 10) + (2 * l2)) + 1 ∧ ((l1 + 10) + (2 * l2)) + 1 < 3598) ∧ E_X12_plain_36 G l1 (l2 + 1) (kup (kup σ 1 ((l1 + 10) + (2 * l2)) 2) 1 (((l1 + 10) + (2 * l2)) + 1) 2) Q))) : E_X12_plain_36 G l1 l2 σ Q := by
  refine R_iload_n e_X12_plain_2.2.2.2.1 2 rfl ?_
  refine R_bipush e_X12_plain_2.2.2.2.2.1 (by decide) ?_
  obtain ⟨q4, h⟩ := h
  refine R_icmp_ge 78 e_X12_plain_2.2.2.2.2.2.1 (by decide) q4 (by decide) (fun q => ?_) (fun q => ?_)
  · replace h := h.1 q
    refine R_aload_n e_X12_plain_5.2.2.1 0 rfl ?_
    refine R_getA 12 0 1 e_X12_plain_5.2.2.2.1 f_X12_7 km_0 (fun _ _ => rfl) rm_0_0 (by decide) ?_
    refine R_iload_n e_X12_plain_5.2.2.2.2.1 1 rfl ?_
    refine R_bipush e_X12_plain_5.2.2.2.2.2.1 (by decide) ?_
    refine R_iadd e_X12_plain_5.2.2.2.2.2.2.1 ?_
    refine R_iconst e_X12_plain_5.2.2.2.2.2.2.2.1 ?_
    obtain ⟨q5, h⟩ := h
    refine R_iast 3598 WM_ok e_X12_plain_5.2.2.2.2.2.2.2.2.1 kma_1 q5 ?_
    exact R_return e_X12_plain_5.2.2.2.2.2.2.2.2.2 rfl h
  · replace h := h.2 q
    refine R_aload_n e_X12_plain_2.2.2.2.2.2.2.1 0 rfl ?_
    refine R_getA 12 0 1 e_X12_plain_2.2.2.2.2.2.2.2.1 f_X12_7 km_0 (fun _ _ => rfl) rm_0_0 (by decide) ?_
    refine R_iload_n e_X12_plain_2.2.2.2.2.2.2.2.2.1 1 rfl ?_
    refine R_bipush e_X12_plain_2.2.2.2.2.2.2.2.2.2 (by decide) ?_
    refine R_iadd e_X12_plain_3.1 ?_
    refine R_iconst e_X12_plain_3.2.1 ?_
    refine R_iload_n e_X12_plain_3.2.2.1 2 rfl ?_
    refine R_imul e_X12_plain_3.2.2.2.1 ?_
    refine R_iadd e_X12_plain_3.2.2.2.2.1 ?_
    refine R_iconst e_X12_plain_3.2.2.2.2.2.1 ?_
    obtain ⟨q6, h⟩ := h
    refine R_iast 3598 WM_ok e_X12_plain_3.2.2.2.2.2.2.1 kma_1 q6 ?_
    refine R_aload_n e_X12_plain_3.2.2.2.2.2.2.2.1 0 rfl ?_
    refine R_getA 12 0 1 e_X12_plain_3.2.2.2.2.2.2.2.2.1 f_X12_7 km_0 (fun _ _ => rfl) rm_0_0 (by decide) ?_
    refine R_iload_n e_X12_plain_3.2.2.2.2.2.2.2.2.2 1 rfl ?_
    refine R_bipush e_X12_plain_4.1 (by decide) ?_
    refine R_iadd e_X12_plain_4.2.1 ?_
    refine R_iconst e_X12_plain_4.2.2.1 ?_
    refine R_iload_n e_X12_plain_4.2.2.2.1 2 rfl ?_
    refine R_imul e_X12_plain_4.2.2.2.2.1 ?_
    refine R_iadd e_X12_plain_4.2.2.2.2.2.1 ?_
    refine R_iconst e_X12_plain_4.2.2.2.2.2.2.1 ?_
    refine R_iadd e_X12_plain_4.2.2.2.2.2.2.2.1 ?_
    refine R_iconst e_X12_plain_4.2.2.2.2.2.2.2.2.1 ?_
    obtain ⟨q7, h⟩ := h
    refine R_iast 3598 WM_ok e_X12_plain_4.2.2.2.2.2.2.2.2.2 kma_1 q7 ?_
    refine R_iinc (ls2 := [(2, vI (l2 + 1)), (0, vA G 0), (1, vI l1)]) e_X12_plain_5.1 2 rfl (by decide) rfl ?_
    refine R_goto 36 e_X12_plain_5.2.1 (by decide) ?_
    refine R_ls (ls2 := [(0, vA G 0), (1, vI l1), (2, vI (l2 + 1))]) [1, 2, 0] rfl ?_
    exact h
