/-! KiteLandModel.is(I)Z -/
theorem e_X12_is_0 : decode cX12_is 0 = .ok (.aload_n 0, 1) ∧ decode cX12_is 1 = .ok (.iload_n 1, 1) ∧ decode cX12_is 2 = .ok (.putfield 87, 3) ∧ decode cX12_is 5 = .ok (.iload_n 1, 1) ∧ decode cX12_is 6 = .ok (.ifCond .ne 7, 3) ∧ decode cX12_is 9 = .ok (.iconst 1, 1) ∧ decode cX12_is 10 = .ok (.goto 4, 3) ∧ decode cX12_is 13 = .ok (.iconst 0, 1) ∧ decode cX12_is 14 = .ok (.ireturn, 1) := by decide +kernel
theorem S_X12_is {G : Kg} {σ : Kmem} {Q : Int → Kmem → Prop} {l1 : Int}  (h : (rI l1) ∧ ((l1 ≠ 0 → Q 0 (kup σ 0 2 l1)) ∧ (l1 = 0 → Q 1 (kup σ 0 2 l1)))) : Run G WM M_X12_is 0 0 0 [vA G 0, vI l1] σ Q := by
  refine Run.of (by decide +kernel) (by show (2 : Nat) ≤ 2; decide) ?_
  show Ex G WM M_X12_is 0 0 0 0 [(0, vA G 0), (1, vI l1)] [] σ Q
  refine R_aload_n e_X12_is_0.1 0 rfl ?_
  refine R_iload_n e_X12_is_0.2.1 1 rfl ?_
  refine R_putI 12 2 2 WM_ok e_X12_is_0.2.2.1 f_X12_87 km_0 rfl rfl rfl ?_
  refine R_iload_n e_X12_is_0.2.2.2.1 1 rfl ?_
  obtain ⟨q1, h⟩ := h
  refine R_if_ne 13 e_X12_is_0.2.2.2.2.1 (by decide) q1  (fun q => ?_) (fun q => ?_)
  · replace h := h.1 q
    refine R_iconst e_X12_is_0.2.2.2.2.2.2.2.1 ?_
    exact R_zreturn e_X12_is_0.2.2.2.2.2.2.2.2 rfl (Or.inl rfl) h
  · replace h := h.2 q
    refine R_iconst e_X12_is_0.2.2.2.2.2.1 ?_
    refine R_goto 14 e_X12_is_0.2.2.2.2.2.2.1 (by decide) ?_
    exact R_zreturn e_X12_is_0.2.2.2.2.2.2.2.2 rfl (Or.inr rfl) h
/-! KiteLandModel.orNone(I)I -/
theorem e_X12_orNone_0 : decode cX12_orNone 0 = .ok (.iload_n 1, 1) ∧ decode cX12_orNone 1 = .ok (.iconst (-1), 1) ∧ decode cX12_orNone 2 = .ok (.if_icmp .ne 12, 3) ∧ decode cX12_orNone 5 = .ok (.aload_n 0, 1) ∧ decode cX12_orNone 6 = .ok (.bipush 6, 2) ∧ decode cX12_orNone 8 = .ok (.invokevirtual 93, 3) ∧ decode cX12_orNone 11 = .ok (.goto 8, 3) ∧ decode cX12_orNone 14 = .ok (.aload_n 0, 1) ∧ decode cX12_orNone 15 = .ok (.iload_n 1, 1) ∧ decode cX12_orNone 16 = .ok (.invokevirtual 97, 3) := by decide +kernel
theorem e_X12_orNone_1 : decode cX12_orNone 19 = .ok (.ireturn, 1) := by decide +kernel
theorem S_X12_orNone {G : Kg} {σ : Kmem} {Q : Int → Kmem → Prop} {l1 : Int}  (h : (rI l1) ∧ ((l1 ≠ -1 → Q l1 (kup σ 0 2 0)) ∧ (l1 = -1 → Q (-1) (kup σ 0 2 6)))) : Run G WM M_X12_orNone 1 0 0 [vA G 0, vI l1] σ Q := by
  refine Run.of (by decide +kernel) (by show (2 : Nat) ≤ 2; decide) ?_
  show Ex G WM M_X12_orNone 1 0 0 0 [(0, vA G 0), (1, vI l1)] [] σ Q
  refine R_iload_n e_X12_orNone_0.1 1 rfl ?_
  refine R_iconst e_X12_orNone_0.2.1 ?_
  obtain ⟨q1, h⟩ := h
  refine R_icmp_ne 14 e_X12_orNone_0.2.2.1 (by decide) q1 (by decide) (fun q => ?_) (fun q => ?_)
  · replace h := h.1 q
    refine R_aload_n e_X12_orNone_0.2.2.2.2.2.2.2.1 0 rfl ?_
    refine R_iload_n e_X12_orNone_0.2.2.2.2.2.2.2.2.1 1 rfl ?_
    refine R_callV (mc := 0) (ms := 0) (mc' := 0) (ms' := 0) (M' := M_X12_gives) (d' := 0) (as := [vI l1]) (st := []) 12 1 e_X12_orNone_0.2.2.2.2.2.2.2.2.2 (kCVof m_X12_gives l_X12_97) rfl (by decide) km_0 (by decide) (by decide) rfl rfl (by show (0 : Nat) ≤ 8; decide) ?_
    refine S_X12_gives ?_
    refine R_eqs (st2 := [vI l1]) (σ2 := (kup σ 0 2 0)) rfl rfl ?_
    exact R_ireturn e_X12_orNone_1 rfl h
  · replace h := h.2 q
    refine R_aload_n e_X12_orNone_0.2.2.2.1 0 rfl ?_
    refine R_bipush e_X12_orNone_0.2.2.2.2.1 (by decide) ?_
    refine R_callV (mc := 0) (ms := 0) (mc' := 0) (ms' := 0) (M' := M_X12_refuse) (d' := 0) (as := [vI 6]) (st := []) 12 1 e_X12_orNone_0.2.2.2.2.2.1 (kCVof m_X12_refuse l_X12_93) rfl (by decide) km_0 (by decide) (by decide) rfl rfl (by show (0 : Nat) ≤ 8; decide) ?_
    refine S_X12_refuse ?_
    refine R_eqs (st2 := [vI (-1)]) (σ2 := (kup σ 0 2 6)) rfl rfl ?_
    refine R_goto 19 e_X12_orNone_0.2.2.2.2.2.2.1 (by decide) ?_
    exact R_ireturn e_X12_orNone_1 rfl h
/-! KiteLandModel.isSpan(I)Z -/
theorem e_X12_isSpan_0 : decode cX12_isSpan 0 = .ok (.iload_n 0, 1) ∧ decode cX12_isSpan 1 = .ok (.i2l, 1) ∧ decode cX12_isSpan 2 = .ok (.lconst 0, 1) ∧ decode cX12_isSpan 3 = .ok (.ldc2_w 391, 3) ∧ decode cX12_isSpan 6 = .ok (.invokestatic 393, 3) ∧ decode cX12_isSpan 9 = .ok (.ireturn, 1) := by decide +kernel
theorem S_X12_isSpan {G : Kg} {σ : Kmem} {Q : Int → Kmem → Prop} {l0 : Int}  (h : (rI l0) ∧ (rL l0 ∧ rL 0 ∧ rL 99) ∧ Q (kb ((0 : Int) ≤ l0 ∧ (l0 : Int) ≤ 99)) σ) : Run G WM M_X12_isSpan 1 0 0 [vI l0] σ Q := by
  refine Run.of (by decide +kernel) (by show (1 : Nat) ≤ 1; decide) ?_
  show Ex G WM M_X12_isSpan 1 0 0 0 [(0, vI l0)] [] σ Q
  refine R_iload_n e_X12_isSpan_0.1 0 rfl ?_
  obtain ⟨q1, h⟩ := h
  refine R_i2l e_X12_isSpan_0.2.1 q1 ?_
  refine R_lconst 0 e_X12_isSpan_0.2.2.1 (by decide) ?_
  refine R_ldc2 (99) k_X12_391 e_X12_isSpan_0.2.2.2.1 ?_
  obtain ⟨q4, h⟩ := h
  refine R_callS (mc := 0) (ms := 0) (mc' := 0) (ms' := 0) (M' := M_X12_isFrom) (d' := 0) (as := [vL l0, vL 0, vL 99]) (st := []) 3 e_X12_isSpan_0.2.2.2.2.1 (kCSof m_X12_isFrom l_X12_393) (by decide) (by decide) rfl rfl (by show (0 : Nat) ≤ 8; decide) ?_
  refine Run.mono (P_X12_isFrom q4) (fun rr ss e => ?_)
  obtain ⟨e1, e2⟩ := e
  refine R_eqs (st2 := [vI (kb ((0 : Int) ≤ l0 ∧ (l0 : Int) ≤ 99))]) (σ2 := σ) (by rw [e1]; rfl) e2 ?_
  exact R_zreturn e_X12_isSpan_0.2.2.2.2.2 rfl (kb_01 _) h
