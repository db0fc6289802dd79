/-! KiteLandModel.owner(III)I -/
theorem e_X12_owner_0 : decode cX12_owner 0 = .ok (.aload_n 0, 1) ∧ decode cX12_owner 1 = .ok (.iload_n 1, 1) ∧ decode cX12_owner 2 = .ok (.iload_n 2, 1) ∧ decode cX12_owner 3 = .ok (.invokevirtual 355, 3) ∧ decode cX12_owner 6 = .ok (.ifCond .eq 24, 3) ∧ decode cX12_owner 9 = .ok (.iload_n 3, 1) ∧ decode cX12_owner 10 = .ok (.invokestatic 340, 3) ∧ decode cX12_owner 13 = .ok (.ifCond .eq 17, 3) ∧ decode cX12_owner 16 = .ok (.aload_n 0, 1) ∧ decode cX12_owner 17 = .ok (.aload_n 0, 1) := by decide +kernel
theorem e_X12_owner_1 : decode cX12_owner 18 = .ok (.iload_n 1, 1) ∧ decode cX12_owner 19 = .ok (.iload_n 2, 1) ∧ decode cX12_owner 20 = .ok (.iload_n 3, 1) ∧ decode cX12_owner 21 = .ok (.invokevirtual 312, 3) ∧ decode cX12_owner 24 = .ok (.invokevirtual 358, 3) ∧ decode cX12_owner 27 = .ok (.goto 8, 3) ∧ decode cX12_owner 30 = .ok (.aload_n 0, 1) ∧ decode cX12_owner 31 = .ok (.iconst 1, 1) ∧ decode cX12_owner 32 = .ok (.invokevirtual 93, 3) ∧ decode cX12_owner 35 = .ok (.ireturn, 1) := by decide +kernel
theorem S_X12_owner {G : Kg} {σ : Kmem} {Q : Int → Kmem → Prop} {l1 l2 l3 : Int}  (h : ((rI (l1) ∧ rI (l2)) ∧ wf (σ 1)) ∧ ((¬ (sFld (σ 1) (l1) (l2)) → Q (-1) (kup σ 0 2 1)) ∧ ((sFld (σ 1) (l1) (l2)) → (rI (l3)) ∧ ((¬ (sHr (l3)) → Q (-1) (kup σ 0 2 1)) ∧ ((sHr (l3)) → (wf (σ 1) ∧ ((0 : Int) ≤ l1 ∧ (l1 : Int) ≤ 100) ∧ ((0 : Int) ≤ l2 ∧ (l2 : Int) ≤ 100) ∧ sHr (l3)) ∧ (rI ((sOwn (σ 1) (l1) (l2) (l3)))) ∧ Q (sOwn (σ 1) (l1) (l2) (l3)) (kup σ 0 2 (kif (((sOwn (σ 1) (l1) (l2) (l3)) : Int) = -1) 6 0))))))) : Run G WM M_X12_owner 7 0 0 [vA G 0, vI l1, vI l2, vI l3] σ Q := by
  refine Run.of (by decide +kernel) (by show (4 : Nat) ≤ 4; decide) ?_
  show Ex G WM M_X12_owner 7 0 0 0 [(0, vA G 0), (1, vI l1), (2, vI l2), (3, vI l3)] [] σ Q
  refine R_aload_n e_X12_owner_0.1 0 rfl ?_
  refine R_iload_n e_X12_owner_0.2.1 1 rfl ?_
  refine R_iload_n e_X12_owner_0.2.2.1 2 rfl ?_
  obtain ⟨q3, h⟩ := h
  refine R_callV (mc := 0) (ms := 0) (mc' := 0) (ms' := 0) (M' := M_X12_isField) (d' := 0) (as := [vI l1, vI l2]) (st := []) 12 2 e_X12_owner_0.2.2.2.1 (kCVof m_X12_isField l_X12_355) rfl (by decide) km_0 (by decide) (by decide) rfl rfl (by show (0 : Nat) ≤ 8; decide) ?_
  refine Run.mono (P_X12_isField q3) (fun rr ss e => ?_)
  obtain ⟨e1, e2⟩ := e
  refine R_eqs (st2 := [vI (kb (sFld (σ 1) (l1) (l2)))]) (σ2 := σ) (by rw [e1]; rfl) e2 ?_
  refine R_if_eq 30 e_X12_owner_0.2.2.2.2.1 (by decide) (kb_r _) (fun q => ?_) (fun q => ?_)
  · replace h := h.1 (kb_f q)
    refine R_aload_n e_X12_owner_1.2.2.2.2.2.2.1 0 rfl ?_
    refine R_iconst e_X12_owner_1.2.2.2.2.2.2.2.1 ?_
    refine R_callV (mc := 0) (ms := 0) (mc' := 0) (ms' := 0) (M' := M_X12_refuse) (d' := 0) (as := [vI 1]) (st := []) 12 1 e_X12_owner_1.2.2.2.2.2.2.2.2.1 (kCVof m_X12_refuse l_X12_93) rfl (by decide) km_0 (by decide) (by decide) rfl rfl (by show (0 : Nat) ≤ 8; decide) ?_
    refine S_X12_refuse ?_
    refine R_eqs (st2 := [vI (-1)]) (σ2 := (kup σ 0 2 1)) rfl rfl ?_
    exact R_ireturn e_X12_owner_1.2.2.2.2.2.2.2.2.2 rfl h
  · replace h := h.2 (kb_t q)
    refine R_iload_n e_X12_owner_0.2.2.2.2.2.1 3 rfl ?_
    obtain ⟨q8, h⟩ := h
    refine R_callS (mc := 0) (ms := 0) (mc' := 0) (ms' := 0) (M' := M_X12_isHour) (d' := 0) (as := [vI l3]) (st := []) 1 e_X12_owner_0.2.2.2.2.2.2.1 (kCSof m_X12_isHour l_X12_340) (by decide) (by decide) rfl rfl (by show (0 : Nat) ≤ 8; decide) ?_
    refine Run.mono (P_X12_isHour q8) (fun rr ss e => ?_)
    obtain ⟨e1, e2⟩ := e
    refine R_eqs (st2 := [vI (kb (sHr (l3)))]) (σ2 := σ) (by rw [e1]; rfl) e2 ?_
    refine R_if_eq 30 e_X12_owner_0.2.2.2.2.2.2.2.1 (by decide) (kb_r _) (fun q => ?_) (fun q => ?_)
    · replace h := h.1 (kb_f q)
      refine R_aload_n e_X12_owner_1.2.2.2.2.2.2.1 0 rfl ?_
      refine R_iconst e_X12_owner_1.2.2.2.2.2.2.2.1 ?_
      refine R_callV (mc := 0) (ms := 0) (mc' := 0) (ms' := 0) (M' := M_X12_refuse) (d' := 0) (as := [vI 1]) (st := []) 12 1 e_X12_owner_1.2.2.2.2.2.2.2.2.1 (kCVof m_X12_refuse l_X12_93) rfl (by decide) km_0 (by decide) (by decide) rfl rfl (by show (0 : Nat) ≤ 8; decide) ?_
      refine S_X12_refuse ?_
      refine R_eqs (st2 := [vI (-1)]) (σ2 := (kup σ 0 2 1)) rfl rfl ?_
      exact R_ireturn e_X12_owner_1.2.2.2.2.2.2.2.2.2 rfl h
    · replace h := h.2 (kb_t q)
      refine R_aload_n e_X12_owner_0.2.2.2.2.2.2.2.2.1 0 rfl ?_
      refine R_aload_n e_X12_owner_0.2.2.2.2.2.2.2.2.2 0 rfl ?_
      refine R_iload_n e_X12_owner_1.1 1 rfl ?_
      refine R_iload_n e_X12_owner_1.2.1 2 rfl ?_
      refine R_iload_n e_X12_owner_1.2.2.1 3 rfl ?_
      obtain ⟨q13, h⟩ := h
      refine R_callV (mc := 0) (ms := 0) (mc' := 0) (ms' := 0) (M' := M_X12_ownerOf) (d' := 6) (as := [vI l1, vI l2, vI l3]) (st := [vA G 0]) 12 3 e_X12_owner_1.2.2.2.1 (kCVof m_X12_ownerOf l_X12_312) rfl (by decide) km_0 (by decide) (by decide) rfl rfl (by show (1 : Nat) ≤ 8; decide) ?_
      refine Run.mono (P_X12_ownerOf q13) (fun rr ss e => ?_)
      obtain ⟨e1, e2⟩ := e
      refine R_eqs (st2 := [vI (sOwn (σ 1) (l1) (l2) (l3)), vA G 0]) (σ2 := σ) (by rw [e1]; rfl) e2 ?_
      obtain ⟨q16, h⟩ := h
      refine R_callV (mc := 0) (ms := 0) (mc' := 0) (ms' := 0) (M' := M_X12_orNone) (d' := 1) (as := [vI (sOwn (σ 1) (l1) (l2) (l3))]) (st := []) 12 1 e_X12_owner_1.2.2.2.2.1 (kCVof m_X12_orNone l_X12_358) rfl (by decide) km_0 (by decide) (by decide) rfl rfl (by show (0 : Nat) ≤ 8; decide) ?_
      refine Run.mono (P_X12_orNone q16) (fun rr ss e => ?_)
      obtain ⟨e1, e2⟩ := e
      refine R_eqs (st2 := [vI (sOwn (σ 1) (l1) (l2) (l3))]) (σ2 := (kup σ 0 2 (kif (((sOwn (σ 1) (l1) (l2) (l3)) : Int) = -1) 6 0))) (by rw [e1]; rfl) e2 ?_
      refine R_goto 35 e_X12_owner_1.2.2.2.2.2.1 (by decide) ?_
      exact R_ireturn e_X12_owner_1.2.2.2.2.2.2.2.2.2 rfl h
/-! KiteLandModel.shaders(III)I -/
theorem e_X12_shaders_0 : decode cX12_shaders 0 = .ok (.aload_n 0, 1) ∧ decode cX12_shaders 1 = .ok (.iload_n 1, 1) ∧ decode cX12_shaders 2 = .ok (.iload_n 2, 1) ∧ decode cX12_shaders 3 = .ok (.invokevirtual 355, 3) ∧ decode cX12_shaders 6 = .ok (.ifCond .eq 24, 3) ∧ decode cX12_shaders 9 = .ok (.iload_n 3, 1) ∧ decode cX12_shaders 10 = .ok (.invokestatic 340, 3) ∧ decode cX12_shaders 13 = .ok (.ifCond .eq 17, 3) ∧ decode cX12_shaders 16 = .ok (.aload_n 0, 1) ∧ decode cX12_shaders 17 = .ok (.aload_n 0, 1) := by decide +kernel
theorem e_X12_shaders_1 : decode cX12_shaders 18 = .ok (.iload_n 1, 1) ∧ decode cX12_shaders 19 = .ok (.iload_n 2, 1) ∧ decode cX12_shaders 20 = .ok (.iload_n 3, 1) ∧ decode cX12_shaders 21 = .ok (.invokevirtual 305, 3) ∧ decode cX12_shaders 24 = .ok (.invokevirtual 97, 3) ∧ decode cX12_shaders 27 = .ok (.goto 8, 3) ∧ decode cX12_shaders 30 = .ok (.aload_n 0, 1) ∧ decode cX12_shaders 31 = .ok (.iconst 1, 1) ∧ decode cX12_shaders 32 = .ok (.invokevirtual 93, 3) ∧ decode cX12_shaders 35 = .ok (.ireturn, 1) := by decide +kernel
theorem S_X12_shaders {G : Kg} {σ : Kmem} {Q : Int → Kmem → Prop} {l1 l2 l3 : Int}  (h : ((rI (l1) ∧ rI (l2)) ∧ wf (σ 1)) ∧ ((¬ (sFld (σ 1) (l1) (l2)) → Q (-1) (kup σ 0 2 1)) ∧ ((sFld (σ 1) (l1) (l2)) → (rI (l3)) ∧ ((¬ (sHr (l3)) → Q (-1) (kup σ 0 2 1)) ∧ ((sHr (l3)) → (wf (σ 1) ∧ ((0 : Int) ≤ l1 ∧ (l1 : Int) ≤ 100) ∧ ((0 : Int) ≤ l2 ∧ (l2 : Int) ≤ 100) ∧ sHr (l3)) ∧ Q (sShs (σ 1) (l1) (l2) (l3) : Int) (kup σ 0 2 0)))))) : Run G WM M_X12_shaders 6 0 0 [vA G 0, vI l1, vI l2, vI l3] σ Q := by
  refine Run.of (by decide +kernel) (by show (4 : Nat) ≤ 4; decide) ?_
  show Ex G WM M_X12_shaders 6 0 0 0 [(0, vA G 0), (1, vI l1), (2, vI l2), (3, vI l3)] [] σ Q
  refine R_aload_n e_X12_shaders_0.1 0 rfl ?_
  refine R_iload_n e_X12_shaders_0.2.1 1 rfl ?_
  refine R_iload_n e_X12_shaders_0.2.2.1 2 rfl ?_
  obtain ⟨q3, h⟩ := h
  refine R_callV (mc := 0) (ms := 0) (mc' := 0) (ms' := 0) (M' := M_X12_isField) (d' := 0) (as := [vI l1, vI l2]) (st := []) 12 2 e_X12_shaders_0.2.2.2.1 (kCVof m_X12_isField l_X12_355) rfl (by decide) km_0 (by decide) (by decide) rfl rfl (by show (0 : Nat) ≤ 8; decide) ?_
  refine Run.mono (P_X12_isField q3) (fun rr ss e => ?_)
  obtain ⟨e1, e2⟩ := e
  refine R_eqs (st2 := [vI (kb (sFld (σ 1) (l1) (l2)))]) (σ2 := σ) (by rw [e1]; rfl) e2 ?_
  refine R_if_eq 30 e_X12_shaders_0.2.2.2.2.1 (by decide) (kb_r _) (fun q => ?_) (fun q => ?_)
  · replace h := h.1 (kb_f q)
    refine R_aload_n e_X12_shaders_1.2.2.2.2.2.2.1 0 rfl ?_
    refine R_iconst e_X12_shaders_1.2.2.2.2.2.2.2.1 ?_
    refine R_callV (mc := 0) (ms := 0) (mc' := 0) (ms' := 0) (M' := M_X12_refuse) (d' := 0) (as := [vI 1]) (st := []) 12 1 e_X12_shaders_1.2.2.2.2.2.2.2.2.1 (kCVof m_X12_refuse l_X12_93) rfl (by decide) km_0 (by decide) (by decide) rfl rfl (by show (0 : Nat) ≤ 8; decide) ?_
    refine S_X12_refuse ?_
    refine R_eqs (st2 := [vI (-1)]) (σ2 := (kup σ 0 2 1)) rfl rfl ?_
    exact R_ireturn e_X12_shaders_1.2.2.2.2.2.2.2.2.2 rfl h
  · replace h := h.2 (kb_t q)
    refine R_iload_n e_X12_shaders_0.2.2.2.2.2.1 3 rfl ?_
    obtain ⟨q8, h⟩ := h
    refine R_callS (mc := 0) (ms := 0) (mc' := 0) (ms' := 0) (M' := M_X12_isHour) (d' := 0) (as := [vI l3]) (st := []) 1 e_X12_shaders_0.2.2.2.2.2.2.1 (kCSof m_X12_isHour l_X12_340) (by decide) (by decide) rfl rfl (by show (0 : Nat) ≤ 8; decide) ?_
    refine Run.mono (P_X12_isHour q8) (fun rr ss e => ?_)
    obtain ⟨e1, e2⟩ := e
    refine R_eqs (st2 := [vI (kb (sHr (l3)))]) (σ2 := σ) (by rw [e1]; rfl) e2 ?_
    refine R_if_eq 30 e_X12_shaders_0.2.2.2.2.2.2.2.1 (by decide) (kb_r _) (fun q => ?_) (fun q => ?_)
    · replace h := h.1 (kb_f q)
      refine R_aload_n e_X12_shaders_1.2.2.2.2.2.2.1 0 rfl ?_
      refine R_iconst e_X12_shaders_1.2.2.2.2.2.2.2.1 ?_
      refine R_callV (mc := 0) (ms := 0) (mc' := 0) (ms' := 0) (M' := M_X12_refuse) (d' := 0) (as := [vI 1]) (st := []) 12 1 e_X12_shaders_1.2.2.2.2.2.2.2.2.1 (kCVof m_X12_refuse l_X12_93) rfl (by decide) km_0 (by decide) (by decide) rfl rfl (by show (0 : Nat) ≤ 8; decide) ?_
      refine S_X12_refuse ?_
      refine R_eqs (st2 := [vI (-1)]) (σ2 := (kup σ 0 2 1)) rfl rfl ?_
      exact R_ireturn e_X12_shaders_1.2.2.2.2.2.2.2.2.2 rfl h
    · replace h := h.2 (kb_t q)
      refine R_aload_n e_X12_shaders_0.2.2.2.2.2.2.2.2.1 0 rfl ?_
      refine R_aload_n e_X12_shaders_0.2.2.2.2.2.2.2.2.2 0 rfl ?_
      refine R_iload_n e_X12_shaders_1.1 1 rfl ?_
      refine R_iload_n e_X12_shaders_1.2.1 2 rfl ?_
      refine R_iload_n e_X12_shaders_1.2.2.1 3 rfl ?_
      obtain ⟨q13, h⟩ := h
      refine R_callV (mc := 0) (ms := 0) (mc' := 0) (ms' := 0) (M' := M_X12_shadersOf) (d' := 5) (as := [vI l1, vI l2, vI l3]) (st := [vA G 0]) 12 3 e_X12_shaders_1.2.2.2.1 (kCVof m_X12_shadersOf l_X12_305) rfl (by decide) km_0 (by decide) (by decide) rfl rfl (by show (1 : Nat) ≤ 8; decide) ?_
      refine Run.mono (P_X12_shadersOf q13) (fun rr ss e => ?_)
      obtain ⟨e1, e2⟩ := e
      refine R_eqs (st2 := [vI (sShs (σ 1) (l1) (l2) (l3) : Int), vA G 0]) (σ2 := σ) (by rw [e1]; rfl) e2 ?_
      refine R_callV (mc := 0) (ms := 0) (mc' := 0) (ms' := 0) (M' := M_X12_gives) (d' := 0) (as := [vI (sShs (σ 1) (l1) (l2) (l3) : Int)]) (st := []) 12 1 e_X12_shaders_1.2.2.2.2.1 (kCVof m_X12_gives l_X12_97) rfl (by decide) km_0 (by decide) (by decide) rfl rfl (by show (0 : Nat) ≤ 8; decide) ?_
      refine S_X12_gives ?_
      refine R_eqs (st2 := [vI (sShs (σ 1) (l1) (l2) (l3) : Int)]) (σ2 := (kup σ 0 2 0)) rfl rfl ?_
      refine R_goto 35 e_X12_shaders_1.2.2.2.2.2.1 (by decide) ?_
      exact R_ireturn e_X12_shaders_1.2.2.2.2.2.2.2.2.2 rfl h
/-! KiteLandModel.estate(II)I -/
theorem e_X12_estate_0 : decode cX12_estate 0 = .ok (.aload_n 0, 1) ∧ decode cX12_estate 1 = .ok (.iload_n 1, 1) ∧ decode cX12_estate 2 = .ok (.invokevirtual 343, 3) ∧ decode cX12_estate 5 = .ok (.ifCond .eq 23, 3) ∧ decode cX12_estate 8 = .ok (.iload_n 2, 1) ∧ decode cX12_estate 9 = .ok (.invokestatic 340, 3) ∧ decode cX12_estate 12 = .ok (.ifCond .eq 16, 3) ∧ decode cX12_estate 15 = .ok (.aload_n 0, 1) ∧ decode cX12_estate 16 = .ok (.aload_n 0, 1) ∧ decode cX12_estate 17 = .ok (.iload_n 1, 1) := by decide +kernel
theorem e_X12_estate_1 : decode cX12_estate 18 = .ok (.iload_n 2, 1) ∧ decode cX12_estate 19 = .ok (.invokevirtual 361, 3) ∧ decode cX12_estate 22 = .ok (.invokevirtual 97, 3) ∧ decode cX12_estate 25 = .ok (.goto 8, 3) ∧ decode cX12_estate 28 = .ok (.aload_n 0, 1) ∧ decode cX12_estate 29 = .ok (.iconst 1, 1) ∧ decode cX12_estate 30 = .ok (.invokevirtual 93, 3) ∧ decode cX12_estate 33 = .ok (.ireturn, 1) := by decide +kernel
theorem S_X12_estate {G : Kg} {σ : Kmem} {Q : Int → Kmem → Prop} {l1 l2 : Int}  (h : (rI l1 ∧ wf (σ 1)) ∧ ((¬ (sKt (σ 1) (l1)) → Q (-1) (kup σ 0 2 1)) ∧ ((sKt (σ 1) (l1)) → (rI (l2)) ∧ ((¬ (sHr (l2)) → Q (-1) (kup σ 0 2 1)) ∧ ((sHr (l2)) → (wf (σ 1) ∧ rI (l1) ∧ sHr (l2)) ∧ Q (sEst (σ 1) (l1) (l2)) (kup σ 0 2 0)))))) : Run G WM M_X12_estate 8 0 0 [vA G 0, vI l1, vI l2] σ Q := by
  refine Run.of (by decide +kernel) (by show (3 : Nat) ≤ 3; decide) ?_
  show Ex G WM M_X12_estate 8 0 0 0 [(0, vA G 0), (1, vI l1), (2, vI l2)] [] σ Q
  refine R_aload_n e_X12_estate_0.1 0 rfl ?_
  refine R_iload_n e_X12_estate_0.2.1 1 rfl ?_
  obtain ⟨q3, h⟩ := h
  refine R_callV (mc := 0) (ms := 0) (mc' := 0) (ms' := 0) (M' := M_X12_isKite) (d' := 0) (as := [vI l1]) (st := []) 12 1 e_X12_estate_0.2.2.1 (kCVof m_X12_isKite l_X12_343) rfl (by decide) km_0 (by decide) (by decide) rfl rfl (by show (0 : Nat) ≤ 8; decide) ?_
  refine Run.mono (P_X12_isKite q3) (fun rr ss e => ?_)
  obtain ⟨e1, e2⟩ := e
  refine R_eqs (st2 := [vI (kb (sKt (σ 1) (l1)))]) (σ2 := σ) (by rw [e1]; rfl) e2 ?_
  refine R_if_eq 28 e_X12_estate_0.2.2.2.1 (by decide) (kb_r _) (fun q => ?_) (fun q => ?_)
  · replace h := h.1 (kb_f q)
    refine R_aload_n e_X12_estate_1.2.2.2.2.1 0 rfl ?_
    refine R_iconst e_X12_estate_1.2.2.2.2.2.1 ?_
    refine R_callV (mc := 0) (ms := 0) (mc' := 0) (ms' := 0) (M' := M_X12_refuse) (d' := 0) (as := [vI 1]) (st := []) 12 1 e_X12_estate_1.2.2.2.2.2.2.1 (kCVof m_X12_refuse l_X12_93) rfl (by decide) km_0 (by decide) (by decide) rfl rfl (by show (0 : Nat) ≤ 8; decide) ?_
    refine S_X12_refuse ?_
    refine R_eqs (st2 := [vI (-1)]) (σ2 := (kup σ 0 2 1)) rfl rfl ?_
    exact R_ireturn e_X12_estate_1.2.2.2.2.2.2.2 rfl h
  · replace h := h.2 (kb_t q)
    refine R_iload_n e_X12_estate_0.2.2.2.2.1 2 rfl ?_
    obtain ⟨q8, h⟩ := h
    refine R_callS (mc := 0) (ms := 0) (mc' := 0) (ms' := 0) (M' := M_X12_isHour) (d' := 0) (as := [vI l2]) (st := []) 1 e_X12_estate_0.2.2.2.2.2.1 (kCSof m_X12_isHour l_X12_340) (by decide) (by decide) rfl rfl (by show (0 : Nat) ≤ 8; decide) ?_
    refine Run.mono (P_X12_isHour q8) (fun rr ss e => ?_)
    obtain ⟨e1, e2⟩ := e
    refine R_eqs (st2 := [vI (kb (sHr (l2)))]) (σ2 := σ) (by rw [e1]; rfl) e2 ?_
    refine R_if_eq 28 e_X12_estate_0.2.2.2.2.2.2.1 (by decide) (kb_r _) (fun q => ?_) (fun q => ?_)
    · replace h := h.1 (kb_f q)
      refine R_aload_n e_X12_estate_1.2.2.2.2.1 0 rfl ?_
      refine R_iconst e_X12_estate_1.2.2.2.2.2.1 ?_
      refine R_callV (mc := 0) (ms := 0) (mc' := 0) (ms' := 0) (M' := M_X12_refuse) (d' := 0) (as := [vI 1]) (st := []) 12 1 e_X12_estate_1.2.2.2.2.2.2.1 (kCVof m_X12_refuse l_X12_93) rfl (by decide) km_0 (by decide) (by decide) rfl rfl (by show (0 : Nat) ≤ 8; decide) ?_
      refine S_X12_refuse ?_
      refine R_eqs (st2 := [vI (-1)]) (σ2 := (kup σ 0 2 1)) rfl rfl ?_
      exact R_ireturn e_X12_estate_1.2.2.2.2.2.2.2 rfl h
    · replace h := h.2 (kb_t q)
      refine R_aload_n e_X12_estate_0.2.2.2.2.2.2.2.1 0 rfl ?_
      refine R_aload_n e_X12_estate_0.2.2.2.2.2.2.2.2.1 0 rfl ?_
      refine R_iload_n e_X12_estate_0.2.2.2.2.2.2.2.2.2 1 rfl ?_
      refine R_iload_n e_X12_estate_1.1 2 rfl ?_
      obtain ⟨q13, h⟩ := h
      refine R_callV (mc := 0) (ms := 0) (mc' := 0) (ms' := 0) (M' := M_X12_estateOf) (d' := 7) (as := [vI l1, vI l2]) (st := [vA G 0]) 12 2 e_X12_estate_1.2.1 (kCVof m_X12_estateOf l_X12_361) rfl (by decide) km_0 (by decide) (by decide) rfl rfl (by show (1 : Nat) ≤ 8; decide) ?_
      refine Run.mono (P_X12_estateOf q13) (fun rr ss e => ?_)
      obtain ⟨e1, e2⟩ := e
      refine R_eqs (st2 := [vI (sEst (σ 1) (l1) (l2)), vA G 0]) (σ2 := σ) (by rw [e1]; rfl) e2 ?_
      refine R_callV (mc := 0) (ms := 0) (mc' := 0) (ms' := 0) (M' := M_X12_gives) (d' := 0) (as := [vI (sEst (σ 1) (l1) (l2))]) (st := []) 12 1 e_X12_estate_1.2.2.1 (kCVof m_X12_gives l_X12_97) rfl (by decide) km_0 (by decide) (by decide) rfl rfl (by show (0 : Nat) ≤ 8; decide) ?_
      refine S_X12_gives ?_
      refine R_eqs (st2 := [vI (sEst (σ 1) (l1) (l2))]) (σ2 := (kup σ 0 2 0)) rfl rfl ?_
      refine R_goto 33 e_X12_estate_1.2.2.2.1 (by decide) ?_
      exact R_ireturn e_X12_estate_1.2.2.2.2.2.2.2 rfl h
/-! KiteLandModel.nobodys(I)I -/
theorem e_X12_nobodys_0 : decode cX12_nobodys 0 = .ok (.iload_n 1, 1) ∧ decode cX12_nobodys 1 = .ok (.invokestatic 340, 3) ∧ decode cX12_nobodys 4 = .ok (.ifCond .eq 16, 3) ∧ decode cX12_nobodys 7 = .ok (.aload_n 0, 1) ∧ decode cX12_nobodys 8 = .ok (.aload_n 0, 1) ∧ decode cX12_nobodys 9 = .ok (.iconst (-1), 1) ∧ decode cX12_nobodys 10 = .ok (.iload_n 1, 1) ∧ decode cX12_nobodys 11 = .ok (.invokevirtual 361, 3) ∧ decode cX12_nobodys 14 = .ok (.invokevirtual 97, 3) ∧ decode cX12_nobodys 17 = .ok (.goto 8, 3) := by decide +kernel
theorem e_X12_nobodys_1 : decode cX12_nobodys 20 = .ok (.aload_n 0, 1) ∧ decode cX12_nobodys 21 = .ok (.iconst 1, 1) ∧ decode cX12_nobodys 22 = .ok (.invokevirtual 93, 3) ∧ decode cX12_nobodys 25 = .ok (.ireturn, 1) := by decide +kernel
theorem S_X12_nobodys {G : Kg} {σ : Kmem} {Q : Int → Kmem → Prop} {l1 : Int}  (h : (rI (l1)) ∧ ((¬ (sHr (l1)) → Q (-1) (kup σ 0 2 1)) ∧ ((sHr (l1)) → (wf (σ 1) ∧ rI ((-1)) ∧ sHr (l1)) ∧ Q (sEst (σ 1) ((-1)) (l1)) (kup σ 0 2 0)))) : Run G WM M_X12_nobodys 8 0 0 [vA G 0, vI l1] σ Q := by
  refine Run.of (by decide +kernel) (by show (2 : Nat) ≤ 2; decide) ?_
  show Ex G WM M_X12_nobodys 8 0 0 0 [(0, vA G 0), (1, vI l1)] [] σ Q
  refine R_iload_n e_X12_nobodys_0.1 1 rfl ?_
  obtain ⟨q3, h⟩ := h
  refine R_callS (mc := 0) (ms := 0) (mc' := 0) (ms' := 0) (M' := M_X12_isHour) (d' := 0) (as := [vI l1]) (st := []) 1 e_X12_nobodys_0.2.1 (kCSof m_X12_isHour l_X12_340) (by decide) (by decide) rfl rfl (by show (0 : Nat) ≤ 8; decide) ?_
  refine Run.mono (P_X12_isHour q3) (fun rr ss e => ?_)
  obtain ⟨e1, e2⟩ := e
  refine R_eqs (st2 := [vI (kb (sHr (l1)))]) (σ2 := σ) (by rw [e1]; rfl) e2 ?_
  refine R_if_eq 20 e_X12_nobodys_0.2.2.1 (by decide) (kb_r _) (fun q => ?_) (fun q => ?_)
  · replace h := h.1 (kb_f q)
    refine R_aload_n e_X12_nobodys_1.1 0 rfl ?_
    refine R_iconst e_X12_nobodys_1.2.1 ?_
    refine R_callV (mc := 0) (ms := 0) (mc' := 0) (ms' := 0) (M' := M_X12_refuse) (d' := 0) (as := [vI 1]) (st := []) 12 1 e_X12_nobodys_1.2.2.1 (kCVof m_X12_refuse l_X12_93) rfl (by decide) km_0 (by decide) (by decide) rfl rfl (by show (0 : Nat) ≤ 8; decide) ?_
    refine S_X12_refuse ?_
    refine R_eqs (st2 := [vI (-1)]) (σ2 := (kup σ 0 2 1)) rfl rfl ?_
    exact R_ireturn e_X12_nobodys_1.2.2.2 rfl h
  · replace h := h.2 (kb_t q)
    refine R_aload_n e_X12_nobodys_0.2.2.2.1 0 rfl ?_
    refine R_aload_n e_X12_nobodys_0.2.2.2.2.1 0 rfl ?_
    refine R_iconst e_X12_nobodys_0.2.2.2.2.2.1 ?_
    refine R_iload_n e_X12_nobodys_0.2.2.2.2.2.2.1 1 rfl ?_
    obtain ⟨q8, h⟩ := h
    refine R_callV (mc := 0) (ms := 0) (mc' := 0) (ms' := 0) (M' := M_X12_estateOf) (d' := 7) (as := [vI (-1), vI l1]) (st := [vA G 0]) 12 2 e_X12_nobodys_0.2.2.2.2.2.2.2.1 (kCVof m_X12_estateOf l_X12_361) rfl (by decide) km_0 (by decide) (by decide) rfl rfl (by show (1 : Nat) ≤ 8; decide) ?_
    refine Run.mono (P_X12_estateOf q8) (fun rr ss e => ?_)
    obtain ⟨e1, e2⟩ := e
    refine R_eqs (st2 := [vI (sEst (σ 1) ((-1)) (l1)), vA G 0]) (σ2 := σ) (by rw [e1]; rfl) e2 ?_
    refine R_callV (mc := 0) (ms := 0) (mc' := 0) (ms' := 0) (M' := M_X12_gives) (d' := 0) (as := [vI (sEst (σ 1) ((-1)) (l1))]) (st := []) 12 1 e_X12_nobodys_0.2.2.2.2.2.2.2.2.1 (kCVof m_X12_gives l_X12_97) rfl (by decide) km_0 (by decide) (by decide) rfl rfl (by show (0 : Nat) ≤ 8; decide) ?_
    refine S_X12_gives ?_
    refine R_eqs (st2 := [vI (sEst (σ 1) ((-1)) (l1))]) (σ2 := (kup σ 0 2 0)) rfl rfl ?_
    refine R_goto 25 e_X12_nobodys_0.2.2.2.2.2.2.2.2.2 (by decide) ?_
    exact R_ireturn e_X12_nobodys_1.2.2.2 rfl h
/-! KiteLandModel.disputed(I)I -/
theorem e_X12_disputed_0 : decode cX12_disputed 0 = .ok (.iload_n 1, 1) ∧ decode cX12_disputed 1 = .ok (.invokestatic 340, 3) ∧ decode cX12_disputed 4 = .ok (.ifCond .ne 9, 3) ∧ decode cX12_disputed 7 = .ok (.aload_n 0, 1) ∧ decode cX12_disputed 8 = .ok (.iconst 1, 1) ∧ decode cX12_disputed 9 = .ok (.invokevirtual 93, 3) ∧ decode cX12_disputed 12 = .ok (.ireturn, 1) ∧ decode cX12_disputed 13 = .ok (.iconst 0, 1) ∧ decode cX12_disputed 14 = .ok (.istore_n 2, 1) ∧ decode cX12_disputed 15 = .ok (.iconst 0, 1) := by decide +kernel
theorem e_X12_disputed_1 : decode cX12_disputed 16 = .ok (.istore_n 3, 1) ∧ decode cX12_disputed 17 = .ok (.iload_n 3, 1) ∧ decode cX12_disputed 18 = .ok (.aload_n 0, 1) ∧ decode cX12_disputed 19 = .ok (.getfield 7, 3) ∧ decode cX12_disputed 22 = .ok (.iconst 0, 1) ∧ decode cX12_disputed 23 = .ok (.iaload, 1) ∧ decode cX12_disputed 24 = .ok (.if_icmp .ge 52, 3) ∧ decode cX12_disputed 27 = .ok (.iconst 0, 1) ∧ decode cX12_disputed 28 = .ok (.istore 4, 2) ∧ decode cX12_disputed 30 = .ok (.iload 4, 2) := by decide +kernel
theorem e_X12_disputed_2 : decode cX12_disputed 32 = .ok (.aload_n 0, 1) ∧ decode cX12_disputed 33 = .ok (.getfield 7, 3) ∧ decode cX12_disputed 36 = .ok (.iconst 1, 1) ∧ decode cX12_disputed 37 = .ok (.iaload, 1) ∧ decode cX12_disputed 38 = .ok (.if_icmp .ge 32, 3) ∧ decode cX12_disputed 41 = .ok (.iload_n 2, 1) ∧ decode cX12_disputed 42 = .ok (.aload_n 0, 1) ∧ decode cX12_disputed 43 = .ok (.iload_n 3, 1) ∧ decode cX12_disputed 44 = .ok (.iload 4, 2) ∧ decode cX12_disputed 46 = .ok (.iload_n 1, 1) := by decide +kernel
theorem e_X12_disputed_3 : decode cX12_disputed 47 = .ok (.invokevirtual 305, 3) ∧ decode cX12_disputed 50 = .ok (.invokestatic 302, 3) ∧ decode cX12_disputed 53 = .ok (.iconst 1, 1) ∧ decode cX12_disputed 54 = .ok (.if_icmp .le 7, 3) ∧ decode cX12_disputed 57 = .ok (.iconst 1, 1) ∧ decode cX12_disputed 58 = .ok (.goto 4, 3) ∧ decode cX12_disputed 61 = .ok (.iconst 0, 1) ∧ decode cX12_disputed 62 = .ok (.iadd, 1) ∧ decode cX12_disputed 63 = .ok (.istore_n 2, 1) ∧ decode cX12_disputed 64 = .ok (.iinc 4 1, 3) := by decide +kernel
theorem e_X12_disputed_4 : decode cX12_disputed 67 = .ok (.goto (-37), 3) ∧ decode cX12_disputed 70 = .ok (.iinc 3 1, 3) ∧ decode cX12_disputed 73 = .ok (.goto (-56), 3) ∧ decode cX12_disputed 76 = .ok (.aload_n 0, 1) ∧ decode cX12_disputed 77 = .ok (.iload_n 2, 1) ∧ decode cX12_disputed 78 = .ok (.invokevirtual 97, 3) ∧ decode cX12_disputed 81 = .ok (.ireturn, 1) := by decide +kernel
abbrev E_X12_disputed_17 (G : Kg) (l1 l2 l3 : Int) (σ : Kmem) (Q : Int → Kmem → Prop) : Prop := Ex G WM M_X12_disputed 6 0 0 17 [(0, vA G 0), (1, vI l1), (2, vI l2), (3, vI l3)] [] σ Q
abbrev E_X12_disputed_30 (G : Kg) (l1 l2 l3 l4 : Int) (σ : Kmem) (Q : Int → Kmem → Prop) : Prop := Ex G WM M_X12_disputed 6 0 0 30 [(0, vA G 0), (1, vI l1), (2, vI l2), (3, vI l3), (4, vI l4)] [] σ Q
theorem S_X12_disputed {G : Kg} {σ : Kmem} {Q : Int → Kmem → Prop} {l1 : Int}  (h : (rI (l1)) ∧ (((sHr (l1)) → E_X12_disputed_17 G l1 0 0 σ Q) ∧ (¬ (sHr (l1)) → Q (-1) (kup σ 0 2 1)))) : Run G WM M_X12_disputed 6 0 0 [vA G 0, vI l1] σ Q := by
  refine Run.of (by decide +kernel) (by show (2 : Nat) ≤ 5; decide) ?_
  show Ex G WM M_X12_disputed 6 0 0 0 [(0, vA G 0), (1, vI l1)] [] σ Q
  refine R_iload_n e_X12_disputed_0.1 1 rfl ?_
  obtain ⟨q3, h⟩ := h
  refine R_callS (mc := 0) (ms := 0) (mc' := 0) (ms' := 0) (M' := M_X12_isHour) (d' := 0) (as := [vI l1]) (st := []) 1 e_X12_disputed_0.2.1 (kCSof m_X12_isHour l_X12_340) (by decide) (by decide) rfl rfl (by show (0 : Nat) ≤ 8; decide) ?_
  refine Run.mono (P_X12_isHour q3) (fun rr ss e => ?_)
  obtain ⟨e1, e2⟩ := e
  refine R_eqs (st2 := [vI (kb (sHr (l1)))]) (σ2 := σ) (by rw [e1]; rfl) e2 ?_
  refine R_if_ne 13 e_X12_disputed_0.2.2.1 (by decide) (kb_r _) (fun q => ?_) (fun q => ?_)
  · replace h := h.1 (kb_t q)
    refine R_iconst e_X12_disputed_0.2.2.2.2.2.2.2.1 ?_
    refine R_istore_n (ls2 := [(2, vI 0), (0, vA G 0), (1, vI l1)]) e_X12_disputed_0.2.2.2.2.2.2.2.2.1 (by decide) rfl ?_
    refine R_iconst e_X12_disputed_0.2.2.2.2.2.2.2.2.2 ?_
    refine R_istore_n (ls2 := [(3, vI 0), (2, vI 0), (0, vA G 0), (1, vI l1)]) e_X12_disputed_1.1 (by decide) rfl ?_
    refine R_ls (ls2 := [(0, vA G 0), (1, vI l1), (2, vI 0), (3, vI 0)]) [2, 3, 1, 0] rfl ?_
    exact h
  · replace h := h.2 (kb_f q)
    refine R_aload_n e_X12_disputed_0.2.2.2.1 0 rfl ?_
    refine R_iconst e_X12_disputed_0.2.2.2.2.1 ?_
    refine R_callV (mc := 0) (ms := 0) (mc' := 0) (ms' := 0) (M' := M_X12_refuse) (d' := 0) (as := [vI 1]) (st := []) 12 1 e_X12_disputed_0.2.2.2.2.2.1 (kCVof m_X12_refuse l_X12_93) rfl (by decide) km_0 (by decide) (by decide) rfl rfl (by show (0 : Nat) ≤ 8; decide) ?_
    refine S_X12_refuse ?_
    refine R_eqs (st2 := [vI (-1)]) (σ2 := (kup σ 0 2 1)) rfl rfl ?_
    exact R_ireturn e_X12_disputed_0.2.2.2.2.2.2.1 rfl h
theorem S_X12_disputed_17 {G : Kg} {σ : Kmem} {Q : Int → Kmem → Prop} {l1 l2 l3 : Int}  (h : (rI l3) ∧ (rI (σ 1 0)) ∧ ((σ 1 0 ≤ l3 → Q l2 (kup σ 0 2 0)) ∧ (l3 < σ 1 0 → E_X12_disputed_30 G l1 l2 l3 0 σ Q))) : E_X12_disputed_17 G l1 l2 l3 σ Q := by
  refine R_iload_n e_X12_disputed_1.2.1 3 rfl ?_
  refine R_aload_n e_X12_disputed_1.2.2.1 0 rfl ?_
  refine R_getA 12 0 1 e_X12_disputed_1.2.2.2.1 f_X12_7 km_0 (fun _ _ => rfl) rm_0_0 (by decide) ?_
  refine R_iconst e_X12_disputed_1.2.2.2.2.1 ?_
  refine R_iald 3598 e_X12_disputed_1.2.2.2.2.2.1 kma_1 (by decide) ?_
  obtain ⟨q6, h⟩ := h
  obtain ⟨q7, h⟩ := h
  refine R_icmp_ge 76 e_X12_disputed_1.2.2.2.2.2.2.1 (by decide) q6 q7 (fun q => ?_) (fun q => ?_)
  · replace h := h.1 q
    refine R_aload_n e_X12_disputed_4.2.2.2.1 0 rfl ?_
    refine R_iload_n e_X12_disputed_4.2.2.2.2.1 2 rfl ?_
    refine R_callV (mc := 0) (ms := 0) (mc' := 0) (ms' := 0) (M' := M_X12_gives) (d' := 0) (as := [vI l2]) (st := []) 12 1 e_X12_disputed_4.2.2.2.2.2.1 (kCVof m_X12_gives l_X12_97) rfl (by decide) km_0 (by decide) (by decide) rfl rfl (by show (0 : Nat) ≤ 8; decide) ?_
    refine S_X12_gives ?_
    refine R_eqs (st2 := [vI l2]) (σ2 := (kup σ 0 2 0)) rfl rfl ?_
    exact R_ireturn e_X12_disputed_4.2.2.2.2.2.2 rfl h
  · replace h := h.2 q
    refine R_iconst e_X12_disputed_1.2.2.2.2.2.2.2.1 ?_
    refine R_istore (ls2 := [(4, vI 0), (0, vA G 0), (1, vI l1), (2, vI l2), (3, vI l3)]) e_X12_disputed_1.2.2.2.2.2.2.2.2.1 (by decide) rfl ?_
    refine R_ls (ls2 := [(0, vA G 0), (1, vI l1), (2, vI l2), (3, vI l3), (4, vI 0)]) [1, 2, 3, 4, 0] rfl ?_
    exact h
theorem S_X12_disputed_30 {G : Kg} {σ : Kmem} {Q : Int → Kmem → Prop} {l1 l2 l3 l4 : Int}  (h : (rI l4) ∧ (rI (σ 1 1)) ∧ ((σ 1 1 ≤ l4 → E_X12_disputed_17 G l1 l2 (l3 + 1) σ Q) ∧ (l4 < σ 1 1 → (wf (σ 1) ∧ ((0 : Int) ≤ l3 ∧ (l3 : Int) ≤ 100) ∧ ((0 : Int) ≤ l4 ∧ (l4 : Int) ≤ 100) ∧ sHr (l1)) ∧ ((0 : Int) ≤ (sShs (σ 1) (l3) (l4) (l1) : Int) ∧ ((sShs (σ 1) (l3) (l4) (l1) : Int) : Int) < 64) ∧ (rI (kbits ((sShs (σ 1) (l3) (l4) (l1) : Int)).toNat : Int)) ∧ (((kbits ((sShs (σ 1) (l3) (l4) (l1) : Int)).toNat : Int) ≤ 1 → E_X12_disputed_30 G l1 (l2 + 0) l3 (l4 + 1) σ Q) ∧ (1 < (kbits ((sShs (σ 1) (l3) (l4) (l1) : Int)).toNat : Int) → E_X12_disputed_30 G l1 (l2 + 1) l3 (l4 + 1) σ Q))))) : E_X12_disputed_30 G l1 l2 l3 l4 σ Q := by
  refine R_iload e_X12_disputed_1.2.2.2.2.2.2.2.2.2 4 rfl ?_
  refine R_aload_n e_X12_disputed_2.1 0 rfl ?_
  refine R_getA 12 0 1 e_X12_disputed_2.2.1 f_X12_7 km_0 (fun _ _ => rfl) rm_0_0 (by decide) ?_
  refine R_iconst e_X12_disputed_2.2.2.1 ?_
  refine R_iald 3598 e_X12_disputed_2.2.2.2.1 kma_1 (by decide) ?_
  obtain ⟨q10, h⟩ := h
  obtain ⟨q11, h⟩ := h
  refine R_icmp_ge 70 e_X12_disputed_2.2.2.2.2.1 (by decide) q10 q11 (fun q => ?_) (fun q => ?_)
  · replace h := h.1 q
    refine R_iinc (ls2 := [(3, vI (l3 + 1)), (0, vA G 0), (1, vI l1), (2, vI l2), (4, vI l4)]) e_X12_disputed_4.2.1 3 rfl (by decide) rfl ?_
    refine R_goto 17 e_X12_disputed_4.2.2.1 (by decide) ?_
    refine R_ls (ls2 := [(0, vA G 0), (1, vI l1), (2, vI l2), (3, vI (l3 + 1))]) [1, 2, 3, 0] rfl ?_
    exact h
  · replace h := h.2 q
    refine R_iload_n e_X12_disputed_2.2.2.2.2.2.1 2 rfl ?_
    refine R_aload_n e_X12_disputed_2.2.2.2.2.2.2.1 0 rfl ?_
    refine R_iload_n e_X12_disputed_2.2.2.2.2.2.2.2.1 3 rfl ?_
    refine R_iload e_X12_disputed_2.2.2.2.2.2.2.2.2.1 4 rfl ?_
    refine R_iload_n e_X12_disputed_2.2.2.2.2.2.2.2.2.2 1 rfl ?_
    obtain ⟨q14, h⟩ := h
    refine R_callV (mc := 0) (ms := 0) (mc' := 0) (ms' := 0) (M' := M_X12_shadersOf) (d' := 5) (as := [vI l3, vI l4, vI l1]) (st := [vI l2]) 12 3 e_X12_disputed_3.1 (kCVof m_X12_shadersOf l_X12_305) rfl (by decide) km_0 (by decide) (by decide) rfl rfl (by show (1 : Nat) ≤ 8; decide) ?_
    refine Run.mono (P_X12_shadersOf q14) (fun rr ss e => ?_)
    obtain ⟨e1, e2⟩ := e
    refine R_eqs (st2 := [vI (sShs (σ 1) (l3) (l4) (l1) : Int), vI l2]) (σ2 := σ) (by rw [e1]; rfl) e2 ?_
    obtain ⟨q17, h⟩ := h
    refine R_callS (mc := 0) (ms := 0) (mc' := 0) (ms' := 0) (M' := M_X12_bits) (d' := 0) (as := [vI (sShs (σ 1) (l3) (l4) (l1) : Int)]) (st := [vI l2]) 1 e_X12_disputed_3.2.1 (kCSof m_X12_bits l_X12_302) (by decide) (by decide) rfl rfl (by show (1 : Nat) ≤ 8; decide) ?_
    refine Run.mono (P_X12_bits q17) (fun rr ss e => ?_)
    obtain ⟨e1, e2⟩ := e
    refine R_eqs (st2 := [vI (kbits ((sShs (σ 1) (l3) (l4) (l1) : Int)).toNat : Int), vI l2]) (σ2 := σ) (by rw [e1]; rfl) e2 ?_
    refine R_iconst e_X12_disputed_3.2.2.1 ?_
    obtain ⟨q18, h⟩ := h
    refine R_icmp_le 61 e_X12_disputed_3.2.2.2.1 (by decide) q18 (by decide) (fun q => ?_) (fun q => ?_)
    · replace h := h.1 q
      refine R_iconst e_X12_disputed_3.2.2.2.2.2.2.1 ?_
      refine R_iadd e_X12_disputed_3.2.2.2.2.2.2.2.1 ?_
      refine R_istore_n (ls2 := [(2, vI (l2 + 0)), (0, vA G 0), (1, vI l1), (3, vI l3), (4, vI l4)]) e_X12_disputed_3.2.2.2.2.2.2.2.2.1 (by decide) rfl ?_
      refine R_iinc (ls2 := [(4, vI (l4 + 1)), (2, vI (l2 + 0)), (0, vA G 0), (1, vI l1), (3, vI l3)]) e_X12_disputed_3.2.2.2.2.2.2.2.2.2 4 rfl (by decide) rfl ?_
      refine R_goto 30 e_X12_disputed_4.1 (by decide) ?_
      refine R_ls (ls2 := [(0, vA G 0), (1, vI l1), (2, vI (l2 + 0)), (3, vI l3), (4, vI (l4 + 1))]) [2, 3, 1, 4, 0] rfl ?_
      exact h
    · replace h := h.2 q
      refine R_iconst e_X12_disputed_3.2.2.2.2.1 ?_
      refine R_goto 62 e_X12_disputed_3.2.2.2.2.2.1 (by decide) ?_
      refine R_iadd e_X12_disputed_3.2.2.2.2.2.2.2.1 ?_
      refine R_istore_n (ls2 := [(2, vI (l2 + 1)), (0, vA G 0), (1, vI l1), (3, vI l3), (4, vI l4)]) e_X12_disputed_3.2.2.2.2.2.2.2.2.1 (by decide) rfl ?_
      refine R_iinc (ls2 := [(4, vI (l4 + 1)), (2, vI (l2 + 1)), (0, vA G 0), (1, vI l1), (3, vI l3)]) e_X12_disputed_3.2.2.2.2.2.2.2.2.2 4 rfl (by decide) rfl ?_
      refine R_goto 30 e_X12_disputed_4.1 (by decide) ?_
      refine R_ls (ls2 := [(0, vA G 0), (1, vI l1), (2, vI (l2 + 1)), (3, vI l3), (4, vI (l4 + 1))]) [2, 3, 1, 4, 0] rfl ?_
      exact h
/-! KiteLandModel.crosses(III)I -/
theorem e_X12_crosses_0 : decode cX12_crosses 0 = .ok (.aload_n 0, 1) ∧ decode cX12_crosses 1 = .ok (.iload_n 1, 1) ∧ decode cX12_crosses 2 = .ok (.iload_n 2, 1) ∧ decode cX12_crosses 3 = .ok (.invokevirtual 364, 3) ∧ decode cX12_crosses 6 = .ok (.ifCond .eq 32, 3) ∧ decode cX12_crosses 9 = .ok (.iload_n 3, 1) ∧ decode cX12_crosses 10 = .ok (.invokestatic 340, 3) ∧ decode cX12_crosses 13 = .ok (.ifCond .eq 25, 3) ∧ decode cX12_crosses 16 = .ok (.aload_n 0, 1) ∧ decode cX12_crosses 17 = .ok (.aload_n 0, 1) := by decide +kernel
theorem e_X12_crosses_1 : decode cX12_crosses 18 = .ok (.iload_n 1, 1) ∧ decode cX12_crosses 19 = .ok (.iload_n 2, 1) ∧ decode cX12_crosses 20 = .ok (.iload_n 3, 1) ∧ decode cX12_crosses 21 = .ok (.invokevirtual 328, 3) ∧ decode cX12_crosses 24 = .ok (.ifCond .eq 7, 3) ∧ decode cX12_crosses 27 = .ok (.iconst 1, 1) ∧ decode cX12_crosses 28 = .ok (.goto 4, 3) ∧ decode cX12_crosses 31 = .ok (.iconst 0, 1) ∧ decode cX12_crosses 32 = .ok (.invokevirtual 97, 3) ∧ decode cX12_crosses 35 = .ok (.goto 8, 3) := by decide +kernel
theorem e_X12_crosses_2 : decode cX12_crosses 38 = .ok (.aload_n 0, 1) ∧ decode cX12_crosses 39 = .ok (.iconst 1, 1) ∧ decode cX12_crosses 40 = .ok (.invokevirtual 93, 3) ∧ decode cX12_crosses 43 = .ok (.ireturn, 1) := by decide +kernel
theorem S_X12_crosses {G : Kg} {σ : Kmem} {Q : Int → Kmem → Prop} {l1 l2 l3 : Int}  (h : ((rI (l1) ∧ rI (l2)) ∧ wf (σ 1)) ∧ ((¬ ((sKt (σ 1) (l1) ∧ sKt (σ 1) (l2)) ∧ l1 ≠ l2) → Q (-1) (kup σ 0 2 1)) ∧ (((sKt (σ 1) (l1) ∧ sKt (σ 1) (l2)) ∧ l1 ≠ l2) → (rI (l3)) ∧ ((¬ (sHr (l3)) → Q (-1) (kup σ 0 2 1)) ∧ ((sHr (l3)) → (wf (σ 1) ∧ sKt (σ 1) (l1) ∧ sKt (σ 1) (l2) ∧ sHr (l3)) ∧ ((¬ (sX (σ 1) (l1) (l2) (l3)) → Q 0 (kup σ 0 2 0)) ∧ ((sX (σ 1) (l1) (l2) (l3)) → Q 1 (kup σ 0 2 0)))))))) : Run G WM M_X12_crosses 6 0 0 [vA G 0, vI l1, vI l2, vI l3] σ Q := by
  refine Run.of (by decide +kernel) (by show (4 : Nat) ≤ 4; decide) ?_
  show Ex G WM M_X12_crosses 6 0 0 0 [(0, vA G 0), (1, vI l1), (2, vI l2), (3, vI l3)] [] σ Q
  refine R_aload_n e_X12_crosses_0.1 0 rfl ?_
  refine R_iload_n e_X12_crosses_0.2.1 1 rfl ?_
  refine R_iload_n e_X12_crosses_0.2.2.1 2 rfl ?_
  obtain ⟨q3, h⟩ := h
  refine R_callV (mc := 0) (ms := 0) (mc' := 0) (ms' := 0) (M' := M_X12_areTwo) (d' := 1) (as := [vI l1, vI l2]) (st := []) 12 2 e_X12_crosses_0.2.2.2.1 (kCVof m_X12_areTwo l_X12_364) rfl (by decide) km_0 (by decide) (by decide) rfl rfl (by show (0 : Nat) ≤ 8; decide) ?_
  refine Run.mono (P_X12_areTwo q3) (fun rr ss e => ?_)
  obtain ⟨e1, e2⟩ := e
  refine R_eqs (st2 := [vI (kb ((sKt (σ 1) (l1) ∧ sKt (σ 1) (l2)) ∧ l1 ≠ l2))]) (σ2 := σ) (by rw [e1]; rfl) e2 ?_
  refine R_if_eq 38 e_X12_crosses_0.2.2.2.2.1 (by decide) (kb_r _) (fun q => ?_) (fun q => ?_)
  · replace h := h.1 (kb_f q)
    refine R_aload_n e_X12_crosses_2.1 0 rfl ?_
    refine R_iconst e_X12_crosses_2.2.1 ?_
    refine R_callV (mc := 0) (ms := 0) (mc' := 0) (ms' := 0) (M' := M_X12_refuse) (d' := 0) (as := [vI 1]) (st := []) 12 1 e_X12_crosses_2.2.2.1 (kCVof m_X12_refuse l_X12_93) rfl (by decide) km_0 (by decide) (by decide) rfl rfl (by show (0 : Nat) ≤ 8; decide) ?_
    refine S_X12_refuse ?_
    refine R_eqs (st2 := [vI (-1)]) (σ2 := (kup σ 0 2 1)) rfl rfl ?_
    exact R_ireturn e_X12_crosses_2.2.2.2 rfl h
  · replace h := h.2 (kb_t q)
    refine R_iload_n e_X12_crosses_0.2.2.2.2.2.1 3 rfl ?_
    obtain ⟨q8, h⟩ := h
    refine R_callS (mc := 0) (ms := 0) (mc' := 0) (ms' := 0) (M' := M_X12_isHour) (d' := 0) (as := [vI l3]) (st := []) 1 e_X12_crosses_0.2.2.2.2.2.2.1 (kCSof m_X12_isHour l_X12_340) (by decide) (by decide) rfl rfl (by show (0 : Nat) ≤ 8; decide) ?_
    refine Run.mono (P_X12_isHour q8) (fun rr ss e => ?_)
    obtain ⟨e1, e2⟩ := e
    refine R_eqs (st2 := [vI (kb (sHr (l3)))]) (σ2 := σ) (by rw [e1]; rfl) e2 ?_
    refine R_if_eq 38 e_X12_crosses_0.2.2.2.2.2.2.2.1 (by decide) (kb_r _) (fun q => ?_) (fun q => ?_)
    · replace h := h.1 (kb_f q)
      refine R_aload_n e_X12_crosses_2.1 0 rfl ?_
      refine R_iconst e_X12_crosses_2.2.1 ?_
      refine R_callV (mc := 0) (ms := 0) (mc' := 0) (ms' := 0) (M' := M_X12_refuse) (d' := 0) (as := [vI 1]) (st := []) 12 1 e_X12_crosses_2.2.2.1 (kCVof m_X12_refuse l_X12_93) rfl (by decide) km_0 (by decide) (by decide) rfl rfl (by show (0 : Nat) ≤ 8; decide) ?_
      refine S_X12_refuse ?_
      refine R_eqs (st2 := [vI (-1)]) (σ2 := (kup σ 0 2 1)) rfl rfl ?_
      exact R_ireturn e_X12_crosses_2.2.2.2 rfl h
    · replace h := h.2 (kb_t q)
      refine R_aload_n e_X12_crosses_0.2.2.2.2.2.2.2.2.1 0 rfl ?_
      refine R_aload_n e_X12_crosses_0.2.2.2.2.2.2.2.2.2 0 rfl ?_
      refine R_iload_n e_X12_crosses_1.1 1 rfl ?_
      refine R_iload_n e_X12_crosses_1.2.1 2 rfl ?_
      refine R_iload_n e_X12_crosses_1.2.2.1 3 rfl ?_
      obtain ⟨q13, h⟩ := h
      refine R_callV (mc := 0) (ms := 0) (mc' := 0) (ms' := 0) (M' := M_X12_doCross) (d' := 5) (as := [vI l1, vI l2, vI l3]) (st := [vA G 0]) 12 3 e_X12_crosses_1.2.2.2.1 (kCVof m_X12_doCross l_X12_328) rfl (by decide) km_0 (by decide) (by decide) rfl rfl (by show (1 : Nat) ≤ 8; decide) ?_
      refine Run.mono (P_X12_doCross q13) (fun rr ss e => ?_)
      obtain ⟨e1, e2⟩ := e
      refine R_eqs (st2 := [vI (kb (sX (σ 1) (l1) (l2) (l3))), vA G 0]) (σ2 := σ) (by rw [e1]; rfl) e2 ?_
      refine R_if_eq 31 e_X12_crosses_1.2.2.2.2.1 (by decide) (kb_r _) (fun q => ?_) (fun q => ?_)
      · replace h := h.1 (kb_f q)
        refine R_iconst e_X12_crosses_1.2.2.2.2.2.2.2.1 ?_
        refine R_callV (mc := 0) (ms := 0) (mc' := 0) (ms' := 0) (M' := M_X12_gives) (d' := 0) (as := [vI 0]) (st := []) 12 1 e_X12_crosses_1.2.2.2.2.2.2.2.2.1 (kCVof m_X12_gives l_X12_97) rfl (by decide) km_0 (by decide) (by decide) rfl rfl (by show (0 : Nat) ≤ 8; decide) ?_
        refine S_X12_gives ?_
        refine R_eqs (st2 := [vI 0]) (σ2 := (kup σ 0 2 0)) rfl rfl ?_
        refine R_goto 43 e_X12_crosses_1.2.2.2.2.2.2.2.2.2 (by decide) ?_
        exact R_ireturn e_X12_crosses_2.2.2.2 rfl h
      · replace h := h.2 (kb_t q)
        refine R_iconst e_X12_crosses_1.2.2.2.2.2.1 ?_
        refine R_goto 32 e_X12_crosses_1.2.2.2.2.2.2.1 (by decide) ?_
        refine R_callV (mc := 0) (ms := 0) (mc' := 0) (ms' := 0) (M' := M_X12_gives) (d' := 0) (as := [vI 1]) (st := []) 12 1 e_X12_crosses_1.2.2.2.2.2.2.2.2.1 (kCVof m_X12_gives l_X12_97) rfl (by decide) km_0 (by decide) (by decide) rfl rfl (by show (0 : Nat) ≤ 8; decide) ?_
        refine S_X12_gives ?_
        refine R_eqs (st2 := [vI 1]) (σ2 := (kup σ 0 2 0)) rfl rfl ?_
        refine R_goto 43 e_X12_crosses_1.2.2.2.2.2.2.2.2.2 (by decide) ?_
        exact R_ireturn e_X12_crosses_2.2.2.2 rfl h
/-! KiteLandModel.doomed()I -/
theorem e_X12_doomed_0 : decode cX12_doomed 0 = .ok (.aload_n 0, 1) ∧ decode cX12_doomed 1 = .ok (.aload_n 0, 1) ∧ decode cX12_doomed 2 = .ok (.invokevirtual 367, 3) ∧ decode cX12_doomed 5 = .ok (.invokevirtual 97, 3) ∧ decode cX12_doomed 8 = .ok (.ireturn, 1) := by decide +kernel
theorem S_X12_doomed {G : Kg} {σ : Kmem} {Q : Int → Kmem → Prop}  (h : (wf (σ 1)) ∧ Q (sDooms (σ 1) : Int) (kup σ 0 2 0)) : Run G WM M_X12_doomed 7 0 0 [vA G 0] σ Q := by
  refine Run.of (by decide +kernel) (by show (1 : Nat) ≤ 1; decide) ?_
  show Ex G WM M_X12_doomed 7 0 0 0 [(0, vA G 0)] [] σ Q
  refine R_aload_n e_X12_doomed_0.1 0 rfl ?_
  refine R_aload_n e_X12_doomed_0.2.1 0 rfl ?_
  obtain ⟨q3, h⟩ := h
  refine R_callV (mc := 0) (ms := 0) (mc' := 0) (ms' := 0) (M' := M_X12_doomedNow) (d' := 6) (as := []) (st := [vA G 0]) 12 0 e_X12_doomed_0.2.2.1 (kCVof m_X12_doomedNow l_X12_367) rfl (by decide) km_0 (by decide) (by decide) rfl rfl (by show (1 : Nat) ≤ 8; decide) ?_
  refine Run.mono (P_X12_doomedNow q3) (fun rr ss e => ?_)
  obtain ⟨e1, e2⟩ := e
  refine R_eqs (st2 := [vI (sDooms (σ 1) : Int), vA G 0]) (σ2 := σ) (by rw [e1]; rfl) e2 ?_
  refine R_callV (mc := 0) (ms := 0) (mc' := 0) (ms' := 0) (M' := M_X12_gives) (d' := 0) (as := [vI (sDooms (σ 1) : Int)]) (st := []) 12 1 e_X12_doomed_0.2.2.2.1 (kCVof m_X12_gives l_X12_97) rfl (by decide) km_0 (by decide) (by decide) rfl rfl (by show (0 : Nat) ≤ 8; decide) ?_
  refine S_X12_gives ?_
  refine R_eqs (st2 := [vI (sDooms (σ 1) : Int)]) (σ2 := (kup σ 0 2 0)) rfl rfl ?_
  exact R_ireturn e_X12_doomed_0.2.2.2.2 rfl h
/-! KiteLandModel.lulls(I)I -/
theorem e_X12_lulls_0 : decode cX12_lulls 0 = .ok (.aload_n 0, 1) ∧ decode cX12_lulls 1 = .ok (.iload_n 1, 1) ∧ decode cX12_lulls 2 = .ok (.invokevirtual 343, 3) ∧ decode cX12_lulls 5 = .ok (.ifCond .ne 9, 3) ∧ decode cX12_lulls 8 = .ok (.aload_n 0, 1) ∧ decode cX12_lulls 9 = .ok (.iconst 1, 1) ∧ decode cX12_lulls 10 = .ok (.invokevirtual 93, 3) ∧ decode cX12_lulls 13 = .ok (.ireturn, 1) ∧ decode cX12_lulls 14 = .ok (.iconst 0, 1) ∧ decode cX12_lulls 15 = .ok (.istore_n 2, 1) := by decide +kernel
theorem e_X12_lulls_1 : decode cX12_lulls 16 = .ok (.iconst 0, 1) ∧ decode cX12_lulls 17 = .ok (.istore_n 3, 1) ∧ decode cX12_lulls 18 = .ok (.iload_n 3, 1) ∧ decode cX12_lulls 19 = .ok (.bipush 12, 2) ∧ decode cX12_lulls 21 = .ok (.if_icmp .ge 28, 3) ∧ decode cX12_lulls 24 = .ok (.iload_n 2, 1) ∧ decode cX12_lulls 25 = .ok (.aload_n 0, 1) ∧ decode cX12_lulls 26 = .ok (.iload_n 1, 1) ∧ decode cX12_lulls 27 = .ok (.iload_n 3, 1) ∧ decode cX12_lulls 28 = .ok (.invokevirtual 274, 3) := by decide +kernel
theorem e_X12_lulls_2 : decode cX12_lulls 31 = .ok (.ifCond .eq 7, 3) ∧ decode cX12_lulls 34 = .ok (.iconst 0, 1) ∧ decode cX12_lulls 35 = .ok (.goto 6, 3) ∧ decode cX12_lulls 38 = .ok (.iconst 1, 1) ∧ decode cX12_lulls 39 = .ok (.iload_n 3, 1) ∧ decode cX12_lulls 40 = .ok (.ishl, 1) ∧ decode cX12_lulls 41 = .ok (.ior, 1) ∧ decode cX12_lulls 42 = .ok (.istore_n 2, 1) ∧ decode cX12_lulls 43 = .ok (.iinc 3 1, 3) ∧ decode cX12_lulls 46 = .ok (.goto (-28), 3) := by decide +kernel
theorem e_X12_lulls_3 : decode cX12_lulls 49 = .ok (.aload_n 0, 1) ∧ decode cX12_lulls 50 = .ok (.iload_n 2, 1) ∧ decode cX12_lulls 51 = .ok (.invokevirtual 97, 3) ∧ decode cX12_lulls 54 = .ok (.ireturn, 1) := by decide +kernel
abbrev E_X12_lulls_18 (G : Kg) (l1 l2 l3 : Int) (σ : Kmem) (Q : Int → Kmem → Prop) : Prop := Ex G WM M_X12_lulls 3 0 0 18 [(0, vA G 0), (1, vI l1), (2, vI l2), (3, vI l3)] [] σ Q
theorem S_X12_lulls {G : Kg} {σ : Kmem} {Q : Int → Kmem → Prop} {l1 : Int}  (h : (rI l1 ∧ wf (σ 1)) ∧ (((sKt (σ 1) (l1)) → E_X12_lulls_18 G l1 0 0 σ Q) ∧ (¬ (sKt (σ 1) (l1)) → Q (-1) (kup σ 0 2 1)))) : Run G WM M_X12_lulls 3 0 0 [vA G 0, vI l1] σ Q := by
  refine Run.of (by decide +kernel) (by show (2 : Nat) ≤ 4; decide) ?_
  show Ex G WM M_X12_lulls 3 0 0 0 [(0, vA G 0), (1, vI l1)] [] σ Q
  refine R_aload_n e_X12_lulls_0.1 0 rfl ?_
  refine R_iload_n e_X12_lulls_0.2.1 1 rfl ?_
  obtain ⟨q3, h⟩ := h
  refine R_callV (mc := 0) (ms := 0) (mc' := 0) (ms' := 0) (M' := M_X12_isKite) (d' := 0) (as := [vI l1]) (st := []) 12 1 e_X12_lulls_0.2.2.1 (kCVof m_X12_isKite l_X12_343) rfl (by decide) km_0 (by decide) (by decide) rfl rfl (by show (0 : Nat) ≤ 8; decide) ?_
  refine Run.mono (P_X12_isKite q3) (fun rr ss e => ?_)
  obtain ⟨e1, e2⟩ := e
  refine R_eqs (st2 := [vI (kb (sKt (σ 1) (l1)))]) (σ2 := σ) (by rw [e1]; rfl) e2 ?_
  refine R_if_ne 14 e_X12_lulls_0.2.2.2.1 (by decide) (kb_r _) (fun q => ?_) (fun q => ?_)
  · replace h := h.1 (kb_t q)
    refine R_iconst e_X12_lulls_0.2.2.2.2.2.2.2.2.1 ?_
    refine R_istore_n (ls2 := [(2, vI 0), (0, vA G 0), (1, vI l1)]) e_X12_lulls_0.2.2.2.2.2.2.2.2.2 (by decide) rfl ?_
    refine R_iconst e_X12_lulls_1.1 ?_
    refine R_istore_n (ls2 := [(3, vI 0), (2, vI 0), (0, vA G 0), (1, vI l1)]) e_X12_lulls_1.2.1 (by decide) rfl ?_
    refine R_ls (ls2 := [(0, vA G 0), (1, vI l1), (2, vI 0), (3, vI 0)]) [2, 3, 1, 0] rfl ?_
    exact h
  · replace h := h.2 (kb_f q)
    refine R_aload_n e_X12_lulls_0.2.2.2.2.1 0 rfl ?_
    refine R_iconst e_X12_lulls_0.2.2.2.2.2.1 ?_
    refine R_callV (mc := 0) (ms := 0) (mc' := 0) (ms' := 0) (M' := M_X12_refuse) (d' := 0) (as := [vI 1]) (st := []) 12 1 e_X12_lulls_0.2.2.2.2.2.2.1 (kCVof m_X12_refuse l_X12_93) rfl (by decide) km_0 (by decide) (by decide) rfl rfl (by show (0 : Nat) ≤ 8; decide) ?_
    refine S_X12_refuse ?_
    refine R_eqs (st2 := [vI (-1)]) (σ2 := (kup σ 0 2 1)) rfl rfl ?_
    exact R_ireturn e_X12_lulls_0.2.2.2.2.2.2.2.1 rfl h
theorem S_X12_lulls_18 {G : Kg} {σ : Kmem} {Q : Int → Kmem → Prop} {l1 l2 l3 : Int}  (h : (rI l3) ∧ ((12 ≤ l3 → Q l2 (kup σ 0 2 0)) ∧ (l3 < 12 → (wf (σ 1) ∧ sKt (σ 1) (l1) ∧ sHr (l3)) ∧ ((¬ (sBorne (σ 1) (l1) (l3)) → E_X12_lulls_18 G l1 (kor l2 (kshl 1 l3)) (l3 + 1) σ Q) ∧ ((sBorne (σ 1) (l1) (l3)) → E_X12_lulls_18 G l1 (kor l2 0) (l3 + 1) σ Q))))) : E_X12_lulls_18 G l1 l2 l3 σ Q := by
  refine R_iload_n e_X12_lulls_1.2.2.1 3 rfl ?_
  refine R_bipush e_X12_lulls_1.2.2.2.1 (by decide) ?_
  obtain ⟨q6, h⟩ := h
  refine R_icmp_ge 49 e_X12_lulls_1.2.2.2.2.1 (by decide) q6 (by decide) (fun q => ?_) (fun q => ?_)
  · replace h := h.1 q
    refine R_aload_n e_X12_lulls_3.1 0 rfl ?_
    refine R_iload_n e_X12_lulls_3.2.1 2 rfl ?_
    refine R_callV (mc := 0) (ms := 0) (mc' := 0) (ms' := 0) (M' := M_X12_gives) (d' := 0) (as := [vI l2]) (st := []) 12 1 e_X12_lulls_3.2.2.1 (kCVof m_X12_gives l_X12_97) rfl (by decide) km_0 (by decide) (by decide) rfl rfl (by show (0 : Nat) ≤ 8; decide) ?_
    refine S_X12_gives ?_
    refine R_eqs (st2 := [vI l2]) (σ2 := (kup σ 0 2 0)) rfl rfl ?_
    exact R_ireturn e_X12_lulls_3.2.2.2 rfl h
  · replace h := h.2 q
    refine R_iload_n e_X12_lulls_1.2.2.2.2.2.1 2 rfl ?_
    refine R_aload_n e_X12_lulls_1.2.2.2.2.2.2.1 0 rfl ?_
    refine R_iload_n e_X12_lulls_1.2.2.2.2.2.2.2.1 1 rfl ?_
    refine R_iload_n e_X12_lulls_1.2.2.2.2.2.2.2.2.1 3 rfl ?_
    obtain ⟨q11, h⟩ := h
    refine R_callV (mc := 0) (ms := 0) (mc' := 0) (ms' := 0) (M' := M_X12_isBorne) (d' := 2) (as := [vI l1, vI l3]) (st := [vI l2]) 12 2 e_X12_lulls_1.2.2.2.2.2.2.2.2.2 (kCVof m_X12_isBorne l_X12_274) rfl (by decide) km_0 (by decide) (by decide) rfl rfl (by show (1 : Nat) ≤ 8; decide) ?_
    refine Run.mono (P_X12_isBorne q11) (fun rr ss e => ?_)
    obtain ⟨e1, e2⟩ := e
    refine R_eqs (st2 := [vI (kb (sBorne (σ 1) (l1) (l3))), vI l2]) (σ2 := σ) (by rw [e1]; rfl) e2 ?_
    refine R_if_eq 38 e_X12_lulls_2.1 (by decide) (kb_r _) (fun q => ?_) (fun q => ?_)
    · replace h := h.1 (kb_f q)
      refine R_iconst e_X12_lulls_2.2.2.2.1 ?_
      refine R_iload_n e_X12_lulls_2.2.2.2.2.1 3 rfl ?_
      refine R_ishl e_X12_lulls_2.2.2.2.2.2.1 ?_
      refine R_ior e_X12_lulls_2.2.2.2.2.2.2.1 ?_
      refine R_istore_n (ls2 := [(2, vI (kor l2 (kshl 1 l3))), (0, vA G 0), (1, vI l1), (3, vI l3)]) e_X12_lulls_2.2.2.2.2.2.2.2.1 (by decide) rfl ?_
      refine R_iinc (ls2 := [(3, vI (l3 + 1)), (2, vI (kor l2 (kshl 1 l3))), (0, vA G 0), (1, vI l1)]) e_X12_lulls_2.2.2.2.2.2.2.2.2.1 3 rfl (by decide) rfl ?_
      refine R_goto 18 e_X12_lulls_2.2.2.2.2.2.2.2.2.2 (by decide) ?_
      refine R_ls (ls2 := [(0, vA G 0), (1, vI l1), (2, vI (kor l2 (kshl 1 l3))), (3, vI (l3 + 1))]) [2, 3, 1, 0] rfl ?_
      exact h
    · replace h := h.2 (kb_t q)
      refine R_iconst e_X12_lulls_2.2.1 ?_
      refine R_goto 41 e_X12_lulls_2.2.2.1 (by decide) ?_
      refine R_ior e_X12_lulls_2.2.2.2.2.2.2.1 ?_
      refine R_istore_n (ls2 := [(2, vI (kor l2 0)), (0, vA G 0), (1, vI l1), (3, vI l3)]) e_X12_lulls_2.2.2.2.2.2.2.2.1 (by decide) rfl ?_
      refine R_iinc (ls2 := [(3, vI (l3 + 1)), (2, vI (kor l2 0)), (0, vA G 0), (1, vI l1)]) e_X12_lulls_2.2.2.2.2.2.2.2.2.1 3 rfl (by decide) rfl ?_
      refine R_goto 18 e_X12_lulls_2.2.2.2.2.2.2.2.2.2 (by decide) ?_
      refine R_ls (ls2 := [(0, vA G 0), (1, vI l1), (2, vI (kor l2 0)), (3, vI (l3 + 1))]) [2, 3, 1, 0] rfl ?_
      exact h
/-! KiteLandModel.busiest()I -/
theorem e_X12_busiest_0 : decode cX12_busiest 0 = .ok (.iconst (-1), 1) ∧ decode cX12_busiest 1 = .ok (.istore_n 1, 1) ∧ decode cX12_busiest 2 = .ok (.iconst 0, 1) ∧ decode cX12_busiest 3 = .ok (.istore_n 2, 1) ∧ decode cX12_busiest 4 = .ok (.iload_n 2, 1) ∧ decode cX12_busiest 5 = .ok (.bipush 12, 2) ∧ decode cX12_busiest 7 = .ok (.if_icmp .ge 38, 3) ∧ decode cX12_busiest 10 = .ok (.aload_n 0, 1) ∧ decode cX12_busiest 11 = .ok (.invokevirtual 370, 3) ∧ decode cX12_busiest 14 = .ok (.ifCond .le 31, 3) := by decide +kernel
theorem e_X12_busiest_1 : decode cX12_busiest 17 = .ok (.iload_n 1, 1) ∧ decode cX12_busiest 18 = .ok (.iconst (-1), 1) ∧ decode cX12_busiest 19 = .ok (.if_icmp .eq 18, 3) ∧ decode cX12_busiest 22 = .ok (.aload_n 0, 1) ∧ decode cX12_busiest 23 = .ok (.iconst (-1), 1) ∧ decode cX12_busiest 24 = .ok (.iload_n 2, 1) ∧ decode cX12_busiest 25 = .ok (.invokevirtual 361, 3) ∧ decode cX12_busiest 28 = .ok (.aload_n 0, 1) ∧ decode cX12_busiest 29 = .ok (.iconst (-1), 1) ∧ decode cX12_busiest 30 = .ok (.iload_n 1, 1) := by decide +kernel
theorem e_X12_busiest_2 : decode cX12_busiest 31 = .ok (.invokevirtual 361, 3) ∧ decode cX12_busiest 34 = .ok (.if_icmp .ge 5, 3) ∧ decode cX12_busiest 37 = .ok (.iload_n 2, 1) ∧ decode cX12_busiest 38 = .ok (.istore_n 1, 1) ∧ decode cX12_busiest 39 = .ok (.iinc 2 1, 3) ∧ decode cX12_busiest 42 = .ok (.goto (-38), 3) ∧ decode cX12_busiest 45 = .ok (.aload_n 0, 1) ∧ decode cX12_busiest 46 = .ok (.iload_n 1, 1) ∧ decode cX12_busiest 47 = .ok (.invokevirtual 358, 3) ∧ decode cX12_busiest 50 = .ok (.ireturn, 1) := by decide +kernel
abbrev E_X12_busiest_4 (G : Kg) (l1 l2 : Int) (σ : Kmem) (Q : Int → Kmem → Prop) : Prop := Ex G WM M_X12_busiest 8 0 0 4 [(0, vA G 0), (1, vI l1), (2, vI l2)] [] σ Q
theorem S_X12_busiest {G : Kg} {σ : Kmem} {Q : Int → Kmem → Prop}  (h : E_X12_busiest_4 G (-1) 0 σ Q) : Run G WM M_X12_busiest 8 0 0 [vA G 0] σ Q := by
  refine Run.of (by decide +kernel) (by show (1 : Nat) ≤ 3; decide) ?_
  show Ex G WM M_X12_busiest 8 0 0 0 [(0, vA G 0)] [] σ Q
  refine R_iconst e_X12_busiest_0.1 ?_
  refine R_istore_n (ls2 := [(1, vI (-1)), (0, vA G 0)]) e_X12_busiest_0.2.1 (by decide) rfl ?_
  refine R_iconst e_X12_busiest_0.2.2.1 ?_
  refine R_istore_n (ls2 := [(2, vI 0), (1, vI (-1)), (0, vA G 0)]) e_X12_busiest_0.2.2.2.1 (by decide) rfl ?_
  refine R_ls (ls2 := [(0, vA G 0), (1, vI (-1)), (2, vI 0)]) [2, 1, 0] rfl ?_
  exact h
theorem S_X12_busiest_4 {G : Kg} {σ : Kmem} {Q : Int → Kmem → Prop} {l1 l2 : Int}  (h : (rI l2) ∧ ((12 ≤ l2 → (rI (l1)) ∧ Q l1 (kup σ 0 2 (kif ((l1 : Int) = -1) 6 0))) ∧ (l2 < 12 → (rI ((σ 1 0) * (σ 1 1))) ∧ (((σ 1 0) * (σ 1 1) ≤ 0 → (rI (l1)) ∧ Q l1 (kup σ 0 2 (kif ((l1 : Int) = -1) 6 0))) ∧ (0 < (σ 1 0) * (σ 1 1) → (rI l1) ∧ ((l1 = -1 → E_X12_busiest_4 G l2 (l2 + 1) σ Q) ∧ (l1 ≠ -1 → (wf (σ 1) ∧ rI ((-1)) ∧ sHr (l2)) ∧ (wf (σ 1) ∧ rI ((-1)) ∧ sHr (l1)) ∧ (rI (sEst (σ 1) ((-1)) (l2))) ∧ (rI (sEst (σ 1) ((-1)) (l1))) ∧ ((sEst (σ 1) ((-1)) (l1) ≤ sEst (σ 1) ((-1)) (l2) → E_X12_busiest_4 G l1 (l2 + 1) σ Q) ∧ (sEst (σ 1) ((-1)) (l2) < sEst (σ 1) ((-1)) (l1) → E_X12_busiest_4 G l2 (l2 + 1) σ Q))))))))) : E_X12_busiest_4 G l1 l2 σ Q := by
  refine R_iload_n e_X12_busiest_0.2.2.2.2.1 2 rfl ?_
  refine R_bipush e_X12_busiest_0.2.2.2.2.2.1 (by decide) ?_
  obtain ⟨q1, h⟩ := h
  refine R_icmp_ge 45 e_X12_busiest_0.2.2.2.2.2.2.1 (by decide) q1 (by decide) (fun q => ?_) (fun q => ?_)
  · replace h := h.1 q
    refine R_aload_n e_X12_busiest_2.2.2.2.2.2.2.1 0 rfl ?_
    refine R_iload_n e_X12_busiest_2.2.2.2.2.2.2.2.1 1 rfl ?_
    obtain ⟨q4, h⟩ := h
    refine R_callV (mc := 0) (ms := 0) (mc' := 0) (ms' := 0) (M' := M_X12_orNone) (d' := 1) (as := [vI l1]) (st := []) 12 1 e_X12_busiest_2.2.2.2.2.2.2.2.2.1 (kCVof m_X12_orNone l_X12_358) rfl (by decide) km_0 (by decide) (by decide) rfl rfl (by show (0 : Nat) ≤ 8; decide) ?_
    refine Run.mono (P_X12_orNone q4) (fun rr ss e => ?_)
    obtain ⟨e1, e2⟩ := e
    refine R_eqs (st2 := [vI l1]) (σ2 := (kup σ 0 2 (kif ((l1 : Int) = -1) 6 0))) (by rw [e1]; rfl) e2 ?_
    exact R_ireturn e_X12_busiest_2.2.2.2.2.2.2.2.2.2 rfl h
  · replace h := h.2 q
    refine R_aload_n e_X12_busiest_0.2.2.2.2.2.2.2.1 0 rfl ?_
    refine R_callV (mc := 0) (ms := 0) (mc' := 0) (ms' := 0) (M' := M_X12_fields) (d' := 0) (as := []) (st := []) 12 0 e_X12_busiest_0.2.2.2.2.2.2.2.2.1 (kCVof m_X12_fields l_X12_370) rfl (by decide) km_0 (by decide) (by decide) rfl rfl (by show (0 : Nat) ≤ 8; decide) ?_
    refine S_X12_fields ?_
    refine R_eqs (st2 := [vI ((σ 1 0) * (σ 1 1))]) (σ2 := σ) rfl rfl ?_
    obtain ⟨q7, h⟩ := h
    refine R_if_le 45 e_X12_busiest_0.2.2.2.2.2.2.2.2.2 (by decide) q7  (fun q => ?_) (fun q => ?_)
    · replace h := h.1 q
      refine R_aload_n e_X12_busiest_2.2.2.2.2.2.2.1 0 rfl ?_
      refine R_iload_n e_X12_busiest_2.2.2.2.2.2.2.2.1 1 rfl ?_
      obtain ⟨q10, h⟩ := h
      refine R_callV (mc := 0) (ms := 0) (mc' := 0) (ms' := 0) (M' := M_X12_orNone) (d' := 1) (as := [vI l1]) (st := []) 12 1 e_X12_busiest_2.2.2.2.2.2.2.2.2.1 (kCVof m_X12_orNone l_X12_358) rfl (by decide) km_0 (by decide) (by decide) rfl rfl (by show (0 : Nat) ≤ 8; decide) ?_
      refine Run.mono (P_X12_orNone q10) (fun rr ss e => ?_)
      obtain ⟨e1, e2⟩ := e
      refine R_eqs (st2 := [vI l1]) (σ2 := (kup σ 0 2 (kif ((l1 : Int) = -1) 6 0))) (by rw [e1]; rfl) e2 ?_
      exact R_ireturn e_X12_busiest_2.2.2.2.2.2.2.2.2.2 rfl h
    · replace h := h.2 q
      refine R_iload_n e_X12_busiest_1.1 1 rfl ?_
      refine R_iconst e_X12_busiest_1.2.1 ?_
      obtain ⟨q11, h⟩ := h
      refine R_icmp_eq 37 e_X12_busiest_1.2.2.1 (by decide) q11 (by decide) (fun q => ?_) (fun q => ?_)
      · replace h := h.1 q
        refine R_iload_n e_X12_busiest_2.2.2.1 2 rfl ?_
        refine R_istore_n (ls2 := [(1, vI l2), (0, vA G 0), (2, vI l2)]) e_X12_busiest_2.2.2.2.1 (by decide) rfl ?_
        refine R_iinc (ls2 := [(2, vI (l2 + 1)), (1, vI l2), (0, vA G 0)]) e_X12_busiest_2.2.2.2.2.1 2 rfl (by decide) rfl ?_
        refine R_goto 4 e_X12_busiest_2.2.2.2.2.2.1 (by decide) ?_
        refine R_ls (ls2 := [(0, vA G 0), (1, vI l2), (2, vI (l2 + 1))]) [2, 1, 0] rfl ?_
        exact h
      · replace h := h.2 q
        refine R_aload_n e_X12_busiest_1.2.2.2.1 0 rfl ?_
        refine R_iconst e_X12_busiest_1.2.2.2.2.1 ?_
        refine R_iload_n e_X12_busiest_1.2.2.2.2.2.1 2 rfl ?_
        obtain ⟨q14, h⟩ := h
        refine R_callV (mc := 0) (ms := 0) (mc' := 0) (ms' := 0) (M' := M_X12_estateOf) (d' := 7) (as := [vI (-1), vI l2]) (st := []) 12 2 e_X12_busiest_1.2.2.2.2.2.2.1 (kCVof m_X12_estateOf l_X12_361) rfl (by decide) km_0 (by decide) (by decide) rfl rfl (by show (0 : Nat) ≤ 8; decide) ?_
        refine Run.mono (P_X12_estateOf q14) (fun rr ss e => ?_)
        obtain ⟨e1, e2⟩ := e
        refine R_eqs (st2 := [vI (sEst (σ 1) ((-1)) (l2))]) (σ2 := σ) (by rw [e1]; rfl) e2 ?_
        refine R_aload_n e_X12_busiest_1.2.2.2.2.2.2.2.1 0 rfl ?_
        refine R_iconst e_X12_busiest_1.2.2.2.2.2.2.2.2.1 ?_
        refine R_iload_n e_X12_busiest_1.2.2.2.2.2.2.2.2.2 1 rfl ?_
        obtain ⟨q17, h⟩ := h
        refine R_callV (mc := 0) (ms := 0) (mc' := 0) (ms' := 0) (M' := M_X12_estateOf) (d' := 7) (as := [vI (-1), vI l1]) (st := [vI (sEst (σ 1) ((-1)) (l2))]) 12 2 e_X12_busiest_2.1 (kCVof m_X12_estateOf l_X12_361) rfl (by decide) km_0 (by decide) (by decide) rfl rfl (by show (1 : Nat) ≤ 8; decide) ?_
        refine Run.mono (P_X12_estateOf q17) (fun rr ss e => ?_)
        obtain ⟨e1, e2⟩ := e
        refine R_eqs (st2 := [vI (sEst (σ 1) ((-1)) (l1)), vI (sEst (σ 1) ((-1)) (l2))]) (σ2 := σ) (by rw [e1]; rfl) e2 ?_
        obtain ⟨q18, h⟩ := h
        obtain ⟨q19, h⟩ := h
        refine R_icmp_ge 39 e_X12_busiest_2.2.1 (by decide) q18 q19 (fun q => ?_) (fun q => ?_)
        · replace h := h.1 q
          refine R_iinc (ls2 := [(2, vI (l2 + 1)), (0, vA G 0), (1, vI l1)]) e_X12_busiest_2.2.2.2.2.1 2 rfl (by decide) rfl ?_
          refine R_goto 4 e_X12_busiest_2.2.2.2.2.2.1 (by decide) ?_
          refine R_ls (ls2 := [(0, vA G 0), (1, vI l1), (2, vI (l2 + 1))]) [1, 2, 0] rfl ?_
          exact h
        · replace h := h.2 q
          refine R_iload_n e_X12_busiest_2.2.2.1 2 rfl ?_
          refine R_istore_n (ls2 := [(1, vI l2), (0, vA G 0), (2, vI l2)]) e_X12_busiest_2.2.2.2.1 (by decide) rfl ?_
          refine R_iinc (ls2 := [(2, vI (l2 + 1)), (1, vI l2), (0, vA G 0)]) e_X12_busiest_2.2.2.2.2.1 2 rfl (by decide) rfl ?_
          refine R_goto 4 e_X12_busiest_2.2.2.2.2.2.1 (by decide) ?_
          refine R_ls (ls2 := [(0, vA G 0), (1, vI l2), (2, vI (l2 + 1))]) [2, 1, 0] rfl ?_
          exact h
/-! KiteLandModel.greatest()I -/
theorem e_X12_greatest_0 : decode cX12_greatest 0 = .ok (.iconst (-1), 1) ∧ decode cX12_greatest 1 = .ok (.istore_n 1, 1) ∧ decode cX12_greatest 2 = .ok (.iconst 0, 1) ∧ decode cX12_greatest 3 = .ok (.istore_n 2, 1) ∧ decode cX12_greatest 4 = .ok (.iload_n 2, 1) ∧ decode cX12_greatest 5 = .ok (.aload_n 0, 1) ∧ decode cX12_greatest 6 = .ok (.getfield 7, 3) ∧ decode cX12_greatest 9 = .ok (.iconst 2, 1) ∧ decode cX12_greatest 10 = .ok (.iaload, 1) ∧ decode cX12_greatest 11 = .ok (.if_icmp .ge 41, 3) := by decide +kernel
theorem e_X12_greatest_1 : decode cX12_greatest 14 = .ok (.aload_n 0, 1) ∧ decode cX12_greatest 15 = .ok (.iload_n 2, 1) ∧ decode cX12_greatest 16 = .ok (.aload_n 0, 1) ∧ decode cX12_greatest 17 = .ok (.invokevirtual 325, 3) ∧ decode cX12_greatest 20 = .ok (.invokevirtual 361, 3) ∧ decode cX12_greatest 23 = .ok (.iload_n 1, 1) ∧ decode cX12_greatest 24 = .ok (.iconst (-1), 1) ∧ decode cX12_greatest 25 = .ok (.if_icmp .ne 7, 3) ∧ decode cX12_greatest 28 = .ok (.iconst 0, 1) ∧ decode cX12_greatest 29 = .ok (.goto 12, 3) := by decide +kernel
theorem e_X12_greatest_2 : decode cX12_greatest 32 = .ok (.aload_n 0, 1) ∧ decode cX12_greatest 33 = .ok (.iload_n 1, 1) ∧ decode cX12_greatest 34 = .ok (.aload_n 0, 1) ∧ decode cX12_greatest 35 = .ok (.invokevirtual 325, 3) ∧ decode cX12_greatest 38 = .ok (.invokevirtual 361, 3) ∧ decode cX12_greatest 41 = .ok (.if_icmp .le 5, 3) ∧ decode cX12_greatest 44 = .ok (.iload_n 2, 1) ∧ decode cX12_greatest 45 = .ok (.istore_n 1, 1) ∧ decode cX12_greatest 46 = .ok (.iinc 2 1, 3) ∧ decode cX12_greatest 49 = .ok (.goto (-45), 3) := by decide +kernel
theorem e_X12_greatest_3 : decode cX12_greatest 52 = .ok (.aload_n 0, 1) ∧ decode cX12_greatest 53 = .ok (.iload_n 1, 1) ∧ decode cX12_greatest 54 = .ok (.invokevirtual 358, 3) ∧ decode cX12_greatest 57 = .ok (.ireturn, 1) := by decide +kernel
abbrev E_X12_greatest_4 (G : Kg) (l1 l2 : Int) (σ : Kmem) (Q : Int → Kmem → Prop) : Prop := Ex G WM M_X12_greatest 8 0 0 4 [(0, vA G 0), (1, vI l1), (2, vI l2)] [] σ Q
theorem S_X12_greatest {G : Kg} {σ : Kmem} {Q : Int → Kmem → Prop}  (h : E_X12_greatest_4 G (-1) 0 σ Q) : Run G WM M_X12_greatest 8 0 0 [vA G 0] σ Q := by
  refine Run.of (by decide +kernel) (by show (1 : Nat) ≤ 3; decide) ?_
  show Ex G WM M_X12_greatest 8 0 0 0 [(0, vA G 0)] [] σ Q
  refine R_iconst e_X12_greatest_0.1 ?_
  refine R_istore_n (ls2 := [(1, vI (-1)), (0, vA G 0)]) e_X12_greatest_0.2.1 (by decide) rfl ?_
  refine R_iconst e_X12_greatest_0.2.2.1 ?_
  refine R_istore_n (ls2 := [(2, vI 0), (1, vI (-1)), (0, vA G 0)]) e_X12_greatest_0.2.2.2.1 (by decide) rfl ?_
  refine R_ls (ls2 := [(0, vA G 0), (1, vI (-1)), (2, vI 0)]) [2, 1, 0] rfl ?_
  exact h
theorem S_X12_greatest_4 {G : Kg} {σ : Kmem} {Q : Int → Kmem → Prop} {l1 l2 : Int}  (h : (rI l2) ∧ (rI (σ 1 2)) ∧ ((σ 1 2 ≤ l2 → (rI (l1)) ∧ Q l1 (kup σ 0 2 (kif ((l1 : Int) = -1) 6 0))) ∧ (l2 < σ 1 2 → (0 ≤ σ 1 7 ∧ σ 1 7 ≤ 2147483647) ∧ (wf (σ 1) ∧ rI (l2) ∧ sHr (((σ 1 7) % 12))) ∧ (rI l1) ∧ ((l1 ≠ -1 → (0 ≤ σ 1 7 ∧ σ 1 7 ≤ 2147483647) ∧ (wf (σ 1) ∧ rI (l1) ∧ sHr (((σ 1 7) % 12))) ∧ (rI (sEst (σ 1) (l2) (((σ 1 7) % 12)))) ∧ (rI (sEst (σ 1) (l1) (((σ 1 7) % 12)))) ∧ ((sEst (σ 1) (l2) (((σ 1 7) % 12)) ≤ sEst (σ 1) (l1) (((σ 1 7) % 12)) → E_X12_greatest_4 G l1 (l2 + 1) σ Q) ∧ (sEst (σ 1) (l1) (((σ 1 7) % 12)) < sEst (σ 1) (l2) (((σ 1 7) % 12)) → E_X12_greatest_4 G l2 (l2 + 1) σ Q))) ∧ (l1 = -1 → (rI (sEst (σ 1) (l2) (((σ 1 7) % 12)))) ∧ ((sEst (σ 1) (l2) (((σ 1 7) % 12)) ≤ 0 → E_X12_greatest_4 G l1 (l2 + 1) σ Q) ∧ (0 < sEst (σ 1) (l2) (((σ 1 7) % 12)) → E_X12_greatest_4 G l2 (l2 + 1) σ Q))))))) : E_X12_greatest_4 G l1 l2 σ Q := by
  refine R_iload_n e_X12_greatest_0.2.2.2.2.1 2 rfl ?_
  refine R_aload_n e_X12_greatest_0.2.2.2.2.2.1 0 rfl ?_
  refine R_getA 12 0 1 e_X12_greatest_0.2.2.2.2.2.2.1 f_X12_7 km_0 (fun _ _ => rfl) rm_0_0 (by decide) ?_
  refine R_iconst e_X12_greatest_0.2.2.2.2.2.2.2.1 ?_
  refine R_iald 3598 e_X12_greatest_0.2.2.2.2.2.2.2.2.1 kma_1 (by decide) ?_
  obtain ⟨q1, h⟩ := h
  obtain ⟨q2, h⟩ := h
  refine R_icmp_ge 52 e_X12_greatest_0.2.2.2.2.2.2.2.2.2 (by decide) q1 q2 (fun q => ?_) (fun q => ?_)
  · replace h := h.1 q
    refine R_aload_n e_X12_greatest_3.1 0 rfl ?_
    refine R_iload_n e_X12_greatest_3.2.1 1 rfl ?_
    obtain ⟨q5, h⟩ := h
    refine R_callV (mc := 0) (ms := 0) (mc' := 0) (ms' := 0) (M' := M_X12_orNone) (d' := 1) (as := [vI l1]) (st := []) 12 1 e_X12_greatest_3.2.2.1 (kCVof m_X12_orNone l_X12_358) rfl (by decide) km_0 (by decide) (by decide) rfl rfl (by show (0 : Nat) ≤ 8; decide) ?_
    refine Run.mono (P_X12_orNone q5) (fun rr ss e => ?_)
    obtain ⟨e1, e2⟩ := e
    refine R_eqs (st2 := [vI l1]) (σ2 := (kup σ 0 2 (kif ((l1 : Int) = -1) 6 0))) (by rw [e1]; rfl) e2 ?_
    exact R_ireturn e_X12_greatest_3.2.2.2 rfl h
  · replace h := h.2 q
    refine R_aload_n e_X12_greatest_1.1 0 rfl ?_
    refine R_iload_n e_X12_greatest_1.2.1 2 rfl ?_
    refine R_aload_n e_X12_greatest_1.2.2.1 0 rfl ?_
    refine R_callV (mc := 0) (ms := 0) (mc' := 0) (ms' := 0) (M' := M_X12_now) (d' := 0) (as := []) (st := [vI l2, vA G 0]) 12 0 e_X12_greatest_1.2.2.2.1 (kCVof m_X12_now l_X12_325) rfl (by decide) km_0 (by decide) (by decide) rfl rfl (by show (2 : Nat) ≤ 8; decide) ?_
    obtain ⟨q8, h⟩ := h
    refine S_X12_now ⟨q8, ?_⟩
    refine R_eqs (st2 := [vI ((σ 1 7) % 12), vI l2, vA G 0]) (σ2 := σ) rfl rfl ?_
    obtain ⟨q11, h⟩ := h
    refine R_callV (mc := 0) (ms := 0) (mc' := 0) (ms' := 0) (M' := M_X12_estateOf) (d' := 7) (as := [vI l2, vI ((σ 1 7) % 12)]) (st := []) 12 2 e_X12_greatest_1.2.2.2.2.1 (kCVof m_X12_estateOf l_X12_361) rfl (by decide) km_0 (by decide) (by decide) rfl rfl (by show (0 : Nat) ≤ 8; decide) ?_
    refine Run.mono (P_X12_estateOf q11) (fun rr ss e => ?_)
    obtain ⟨e1, e2⟩ := e
    refine R_eqs (st2 := [vI (sEst (σ 1) (l2) (((σ 1 7) % 12)))]) (σ2 := σ) (by rw [e1]; rfl) e2 ?_
    refine R_iload_n e_X12_greatest_1.2.2.2.2.2.1 1 rfl ?_
    refine R_iconst e_X12_greatest_1.2.2.2.2.2.2.1 ?_
    obtain ⟨q12, h⟩ := h
    refine R_icmp_ne 32 e_X12_greatest_1.2.2.2.2.2.2.2.1 (by decide) q12 (by decide) (fun q => ?_) (fun q => ?_)
    · replace h := h.1 q
      refine R_aload_n e_X12_greatest_2.1 0 rfl ?_
      refine R_iload_n e_X12_greatest_2.2.1 1 rfl ?_
      refine R_aload_n e_X12_greatest_2.2.2.1 0 rfl ?_
      refine R_callV (mc := 0) (ms := 0) (mc' := 0) (ms' := 0) (M' := M_X12_now) (d' := 0) (as := []) (st := [vI l1, vA G 0, vI (sEst (σ 1) (l2) (((σ 1 7) % 12)))]) 12 0 e_X12_greatest_2.2.2.2.1 (kCVof m_X12_now l_X12_325) rfl (by decide) km_0 (by decide) (by decide) rfl rfl (by show (3 : Nat) ≤ 8; decide) ?_
      obtain ⟨q15, h⟩ := h
      refine S_X12_now ⟨q15, ?_⟩
      refine R_eqs (st2 := [vI ((σ 1 7) % 12), vI l1, vA G 0, vI (sEst (σ 1) (l2) (((σ 1 7) % 12)))]) (σ2 := σ) rfl rfl ?_
      obtain ⟨q18, h⟩ := h
      refine R_callV (mc := 0) (ms := 0) (mc' := 0) (ms' := 0) (M' := M_X12_estateOf) (d' := 7) (as := [vI l1, vI ((σ 1 7) % 12)]) (st := [vI (sEst (σ 1) (l2) (((σ 1 7) % 12)))]) 12 2 e_X12_greatest_2.2.2.2.2.1 (kCVof m_X12_estateOf l_X12_361) rfl (by decide) km_0 (by decide) (by decide) rfl rfl (by show (1 : Nat) ≤ 8; decide) ?_
      refine Run.mono (P_X12_estateOf q18) (fun rr ss e => ?_)
      obtain ⟨e1, e2⟩ := e
      refine R_eqs (st2 := [vI (sEst (σ 1) (l1) (((σ 1 7) % 12))), vI (sEst (σ 1) (l2) (((σ 1 7) % 12)))]) (σ2 := σ) (by rw [e1]; rfl) e2 ?_
      obtain ⟨q19, h⟩ := h
      obtain ⟨q20, h⟩ := h
      refine R_icmp_le 46 e_X12_greatest_2.2.2.2.2.2.1 (by decide) q19 q20 (fun q => ?_) (fun q => ?_)
      · replace h := h.1 q
        refine R_iinc (ls2 := [(2, vI (l2 + 1)), (0, vA G 0), (1, vI l1)]) e_X12_greatest_2.2.2.2.2.2.2.2.2.1 2 rfl (by decide) rfl ?_
        refine R_goto 4 e_X12_greatest_2.2.2.2.2.2.2.2.2.2 (by decide) ?_
        refine R_ls (ls2 := [(0, vA G 0), (1, vI l1), (2, vI (l2 + 1))]) [1, 2, 0] rfl ?_
        exact h
      · replace h := h.2 q
        refine R_iload_n e_X12_greatest_2.2.2.2.2.2.2.1 2 rfl ?_
        refine R_istore_n (ls2 := [(1, vI l2), (0, vA G 0), (2, vI l2)]) e_X12_greatest_2.2.2.2.2.2.2.2.1 (by decide) rfl ?_
        refine R_iinc (ls2 := [(2, vI (l2 + 1)), (1, vI l2), (0, vA G 0)]) e_X12_greatest_2.2.2.2.2.2.2.2.2.1 2 rfl (by decide) rfl ?_
        refine R_goto 4 e_X12_greatest_2.2.2.2.2.2.2.2.2.2 (by decide) ?_
        refine R_ls (ls2 := [(0, vA G 0), (1, vI l2), (2, vI (l2 + 1))]) [2, 1, 0] rfl ?_
        exact h
    · replace h := h.2 q
      refine R_iconst e_X12_greatest_1.2.2.2.2.2.2.2.2.1 ?_
      refine R_goto 41 e_X12_greatest_1.2.2.2.2.2.2.2.2.2 (by decide) ?_
      obtain ⟨q21, h⟩ := h
      refine R_icmp_le 46 e_X12_greatest_2.2.2.2.2.2.1 (by decide) q21 (by decide) (fun q => ?_) (fun q => ?_)
      · replace h := h.1 q
        refine R_iinc (ls2 := [(2, vI (l2 + 1)), (0, vA G 0), (1, vI l1)]) e_X12_greatest_2.2.2.2.2.2.2.2.2.1 2 rfl (by decide) rfl ?_
        refine R_goto 4 e_X12_greatest_2.2.2.2.2.2.2.2.2.2 (by decide) ?_
        refine R_ls (ls2 := [(0, vA G 0), (1, vI l1), (2, vI (l2 + 1))]) [1, 2, 0] rfl ?_
        exact h
      · replace h := h.2 q
        refine R_iload_n e_X12_greatest_2.2.2.2.2.2.2.1 2 rfl ?_
        refine R_istore_n (ls2 := [(1, vI l2), (0, vA G 0), (2, vI l2)]) e_X12_greatest_2.2.2.2.2.2.2.2.1 (by decide) rfl ?_
        refine R_iinc (ls2 := [(2, vI (l2 + 1)), (1, vI l2), (0, vA G 0)]) e_X12_greatest_2.2.2.2.2.2.2.2.2.1 2 rfl (by decide) rfl ?_
        refine R_goto 4 e_X12_greatest_2.2.2.2.2.2.2.2.2.2 (by decide) ?_
        refine R_ls (ls2 := [(0, vA G 0), (1, vI l2), (2, vI (l2 + 1))]) [2, 1, 0] rfl ?_
        exact h
/-! KiteLandModel.hour(I)I -/
theorem e_X12_hour_0 : decode cX12_hour 0 = .ok (.iload_n 1, 1) ∧ decode cX12_hour 1 = .ok (.i2l, 1) ∧ decode cX12_hour 2 = .ok (.lconst 1, 1) ∧ decode cX12_hour 3 = .ok (.ldc2_w 391, 3) ∧ decode cX12_hour 6 = .ok (.invokestatic 393, 3) ∧ decode cX12_hour 9 = .ok (.ifCond .ne 9, 3) ∧ decode cX12_hour 12 = .ok (.aload_n 0, 1) ∧ decode cX12_hour 13 = .ok (.iconst 1, 1) ∧ decode cX12_hour 14 = .ok (.invokevirtual 93, 3) ∧ decode cX12_hour 17 = .ok (.ireturn, 1) := by decide +kernel
theorem e_X12_hour_1 : decode cX12_hour 18 = .ok (.aload_n 0, 1) ∧ decode cX12_hour 19 = .ok (.getfield 7, 3) ∧ decode cX12_hour 22 = .ok (.bipush 7, 2) ∧ decode cX12_hour 24 = .ok (.iaload, 1) ∧ decode cX12_hour 25 = .ok (.iload_n 1, 1) ∧ decode cX12_hour 26 = .ok (.iadd, 1) ∧ decode cX12_hour 27 = .ok (.sipush 9999, 3) ∧ decode cX12_hour 30 = .ok (.if_icmp .le 9, 3) ∧ decode cX12_hour 33 = .ok (.aload_n 0, 1) ∧ decode cX12_hour 34 = .ok (.iconst 4, 1) := by decide +kernel
theorem e_X12_hour_2 : decode cX12_hour 35 = .ok (.invokevirtual 93, 3) ∧ decode cX12_hour 38 = .ok (.ireturn, 1) ∧ decode cX12_hour 39 = .ok (.iconst 0, 1) ∧ decode cX12_hour 40 = .ok (.istore_n 2, 1) ∧ decode cX12_hour 41 = .ok (.iconst 0, 1) ∧ decode cX12_hour 42 = .ok (.istore_n 3, 1) ∧ decode cX12_hour 43 = .ok (.iload_n 3, 1) ∧ decode cX12_hour 44 = .ok (.iload_n 1, 1) ∧ decode cX12_hour 45 = .ok (.if_icmp .ge 16, 3) ∧ decode cX12_hour 48 = .ok (.iload_n 2, 1) := by decide +kernel
theorem e_X12_hour_3 : decode cX12_hour 49 = .ok (.aload_n 0, 1) ∧ decode cX12_hour 50 = .ok (.invokevirtual 397, 3) ∧ decode cX12_hour 53 = .ok (.ior, 1) ∧ decode cX12_hour 54 = .ok (.istore_n 2, 1) ∧ decode cX12_hour 55 = .ok (.iinc 3 1, 3) ∧ decode cX12_hour 58 = .ok (.goto (-15), 3) ∧ decode cX12_hour 61 = .ok (.aload_n 0, 1) ∧ decode cX12_hour 62 = .ok (.iload_n 2, 1) ∧ decode cX12_hour 63 = .ok (.invokevirtual 97, 3) ∧ decode cX12_hour 66 = .ok (.ireturn, 1) := by decide +kernel
abbrev E_X12_hour_43 (G : Kg) (l1 l2 l3 : Int) (σ : Kmem) (Q : Int → Kmem → Prop) : Prop := Ex G WM M_X12_hour 9 0 0 43 [(0, vA G 0), (1, vI l1), (2, vI l2), (3, vI l3)] [] σ Q
theorem S_X12_hour {G : Kg} {σ : Kmem} {Q : Int → Kmem → Prop} {l1 : Int}  (h : (rI l1) ∧ (rL l1 ∧ rL 1 ∧ rL 99) ∧ ((((1 : Int) ≤ l1 ∧ (l1 : Int) ≤ 99) → (rI ((σ 1 7) + l1)) ∧ (((σ 1 7) + l1 ≤ 9999 → E_X12_hour_43 G l1 0 0 σ Q) ∧ (9999 < (σ 1 7) + l1 → Q (-1) (kup σ 0 2 4)))) ∧ (¬ ((1 : Int) ≤ l1 ∧ (l1 : Int) ≤ 99) → Q (-1) (kup σ 0 2 1)))) : Run G WM M_X12_hour 9 0 0 [vA G 0, vI l1] σ Q := by
  refine Run.of (by decide +kernel) (by show (2 : Nat) ≤ 4; decide) ?_
  show Ex G WM M_X12_hour 9 0 0 0 [(0, vA G 0), (1, vI l1)] [] σ Q
  refine R_iload_n e_X12_hour_0.1 1 rfl ?_
  obtain ⟨q1, h⟩ := h
  refine R_i2l e_X12_hour_0.2.1 q1 ?_
  refine R_lconst 1 e_X12_hour_0.2.2.1 (by decide) ?_
  refine R_ldc2 (99) k_X12_391 e_X12_hour_0.2.2.2.1 ?_
  obtain ⟨q4, h⟩ := h
  refine R_callS (mc := 0) (ms := 0) (mc' := 0) (ms' := 0) (M' := M_X12_isFrom) (d' := 0) (as := [vL l1, vL 1, vL 99]) (st := []) 3 e_X12_hour_0.2.2.2.2.1 (kCSof m_X12_isFrom l_X12_393) (by decide) (by decide) rfl rfl (by show (0 : Nat) ≤ 8; decide) ?_
  refine Run.mono (P_X12_isFrom q4) (fun rr ss e => ?_)
  obtain ⟨e1, e2⟩ := e
  refine R_eqs (st2 := [vI (kb ((1 : Int) ≤ l1 ∧ (l1 : Int) ≤ 99))]) (σ2 := σ) (by rw [e1]; rfl) e2 ?_
  refine R_if_ne 18 e_X12_hour_0.2.2.2.2.2.1 (by decide) (kb_r _) (fun q => ?_) (fun q => ?_)
  · replace h := h.1 (kb_t q)
    refine R_aload_n e_X12_hour_1.1 0 rfl ?_
    refine R_getA 12 0 1 e_X12_hour_1.2.1 f_X12_7 km_0 (fun _ _ => rfl) rm_0_0 (by decide) ?_
    refine R_bipush e_X12_hour_1.2.2.1 (by decide) ?_
    refine R_iald 3598 e_X12_hour_1.2.2.2.1 kma_1 (by decide) ?_
    refine R_iload_n e_X12_hour_1.2.2.2.2.1 1 rfl ?_
    refine R_iadd e_X12_hour_1.2.2.2.2.2.1 ?_
    refine R_sipush e_X12_hour_1.2.2.2.2.2.2.1 (by decide) ?_
    obtain ⟨q5, h⟩ := h
    refine R_icmp_le 39 e_X12_hour_1.2.2.2.2.2.2.2.1 (by decide) q5 (by decide) (fun q => ?_) (fun q => ?_)
    · replace h := h.1 q
      refine R_iconst e_X12_hour_2.2.2.1 ?_
      refine R_istore_n (ls2 := [(2, vI 0), (0, vA G 0), (1, vI l1)]) e_X12_hour_2.2.2.2.1 (by decide) rfl ?_
      refine R_iconst e_X12_hour_2.2.2.2.2.1 ?_
      refine R_istore_n (ls2 := [(3, vI 0), (2, vI 0), (0, vA G 0), (1, vI l1)]) e_X12_hour_2.2.2.2.2.2.1 (by decide) rfl ?_
      refine R_ls (ls2 := [(0, vA G 0), (1, vI l1), (2, vI 0), (3, vI 0)]) [2, 3, 1, 0] rfl ?_
      exact h
    · replace h := h.2 q
      refine R_aload_n e_X12_hour_1.2.2.2.2.2.2.2.2.1 0 rfl ?_
      refine R_iconst e_X12_hour_1.2.2.2.2.2.2.2.2.2 ?_
      refine R_callV (mc := 0) (ms := 0) (mc' := 0) (ms' := 0) (M' := M_X12_refuse) (d' := 0) (as := [vI 4]) (st := []) 12 1 e_X12_hour_2.1 (kCVof m_X12_refuse l_X12_93) rfl (by decide) km_0 (by decide) (by decide) rfl rfl (by show (0 : Nat) ≤ 8; decide) ?_
      refine S_X12_refuse ?_
      refine R_eqs (st2 := [vI (-1)]) (σ2 := (kup σ 0 2 4)) rfl rfl ?_
      exact R_ireturn e_X12_hour_2.2.1 rfl h
  · replace h := h.2 (kb_f q)
    refine R_aload_n e_X12_hour_0.2.2.2.2.2.2.1 0 rfl ?_
    refine R_iconst e_X12_hour_0.2.2.2.2.2.2.2.1 ?_
    refine R_callV (mc := 0) (ms := 0) (mc' := 0) (ms' := 0) (M' := M_X12_refuse) (d' := 0) (as := [vI 1]) (st := []) 12 1 e_X12_hour_0.2.2.2.2.2.2.2.2.1 (kCVof m_X12_refuse l_X12_93) rfl (by decide) km_0 (by decide) (by decide) rfl rfl (by show (0 : Nat) ≤ 8; decide) ?_
    refine S_X12_refuse ?_
    refine R_eqs (st2 := [vI (-1)]) (σ2 := (kup σ 0 2 1)) rfl rfl ?_
    exact R_ireturn e_X12_hour_0.2.2.2.2.2.2.2.2.2 rfl h
theorem S_X12_hour_43 {G : Kg} {σ : Kmem} {Q : Int → Kmem → Prop} {l1 l2 l3 : Int}  (h : (rI l3) ∧ (rI l1) ∧ ((l1 ≤ l3 → Q l2 (kup σ 0 2 0)) ∧ (l3 < l1 → (wf (σ 1)) ∧ E_X12_hour_43 G l1 (kor l2 (sDooms (σ 1) : Int)) (l3 + 1) (kst σ 1 (sBy (σ 1))) Q))) : E_X12_hour_43 G l1 l2 l3 σ Q := by
  refine R_iload_n e_X12_hour_2.2.2.2.2.2.2.1 3 rfl ?_
  refine R_iload_n e_X12_hour_2.2.2.2.2.2.2.2.1 1 rfl ?_
  obtain ⟨q10, h⟩ := h
  obtain ⟨q11, h⟩ := h
  refine R_icmp_ge 61 e_X12_hour_2.2.2.2.2.2.2.2.2.1 (by decide) q10 q11 (fun q => ?_) (fun q => ?_)
  · replace h := h.1 q
    refine R_aload_n e_X12_hour_3.2.2.2.2.2.2.1 0 rfl ?_
    refine R_iload_n e_X12_hour_3.2.2.2.2.2.2.2.1 2 rfl ?_
    refine R_callV (mc := 0) (ms := 0) (mc' := 0) (ms' := 0) (M' := M_X12_gives) (d' := 0) (as := [vI l2]) (st := []) 12 1 e_X12_hour_3.2.2.2.2.2.2.2.2.1 (kCVof m_X12_gives l_X12_97) rfl (by decide) km_0 (by decide) (by decide) rfl rfl (by show (0 : Nat) ≤ 8; decide) ?_
    refine S_X12_gives ?_
    refine R_eqs (st2 := [vI l2]) (σ2 := (kup σ 0 2 0)) rfl rfl ?_
    exact R_ireturn e_X12_hour_3.2.2.2.2.2.2.2.2.2 rfl h
  · replace h := h.2 q
    refine R_iload_n e_X12_hour_2.2.2.2.2.2.2.2.2.2 2 rfl ?_
    refine R_aload_n e_X12_hour_3.1 0 rfl ?_
    obtain ⟨q16, h⟩ := h
    refine R_callV (mc := 0) (ms := 0) (mc' := 0) (ms' := 0) (M' := M_X12_goesBy) (d' := 8) (as := []) (st := [vI l2]) 12 0 e_X12_hour_3.2.1 (kCVof m_X12_goesBy l_X12_397) rfl (by decide) km_0 (by decide) (by decide) rfl rfl (by show (1 : Nat) ≤ 8; decide) ?_
    refine Run.mono (P_X12_goesBy q16) (fun rr ss e => ?_)
    obtain ⟨e1, e2⟩ := e
    refine R_eqs (st2 := [vI (sDooms (σ 1) : Int), vI l2]) (σ2 := (kst σ 1 (sBy (σ 1)))) (by rw [e1]; rfl) e2 ?_
    refine R_ior e_X12_hour_3.2.2.1 ?_
    refine R_istore_n (ls2 := [(2, vI (kor l2 (sDooms (σ 1) : Int))), (0, vA G 0), (1, vI l1), (3, vI l3)]) e_X12_hour_3.2.2.2.1 (by decide) rfl ?_
    refine R_iinc (ls2 := [(3, vI (l3 + 1)), (2, vI (kor l2 (sDooms (σ 1) : Int))), (0, vA G 0), (1, vI l1)]) e_X12_hour_3.2.2.2.2.1 3 rfl (by decide) rfl ?_
    refine R_goto 43 e_X12_hour_3.2.2.2.2.2.1 (by decide) ?_
    refine R_ls (ls2 := [(0, vA G 0), (1, vI l1), (2, vI (kor l2 (sDooms (σ 1) : Int))), (3, vI (l3 + 1))]) [2, 3, 1, 0] rfl ?_
    exact h
/-! KiteLandModel.walk(II)I -/
theorem e_X12_walk_0 : decode cX12_walk 0 = .ok (.aload_n 0, 1) ∧ decode cX12_walk 1 = .ok (.iload_n 1, 1) ∧ decode cX12_walk 2 = .ok (.invokevirtual 343, 3) ∧ decode cX12_walk 5 = .ok (.ifCond .eq 15, 3) ∧ decode cX12_walk 8 = .ok (.iload_n 2, 1) ∧ decode cX12_walk 9 = .ok (.i2l, 1) ∧ decode cX12_walk 10 = .ok (.lconst 0, 1) ∧ decode cX12_walk 11 = .ok (.ldc2_w 400, 3) ∧ decode cX12_walk 14 = .ok (.invokestatic 393, 3) ∧ decode cX12_walk 17 = .ok (.ifCond .ne 9, 3) := by decide +kernel
theorem e_X12_walk_1 : decode cX12_walk 20 = .ok (.aload_n 0, 1) ∧ decode cX12_walk 21 = .ok (.iconst 1, 1) ∧ decode cX12_walk 22 = .ok (.invokevirtual 93, 3) ∧ decode cX12_walk 25 = .ok (.ireturn, 1) ∧ decode cX12_walk 26 = .ok (.aload_n 0, 1) ∧ decode cX12_walk 27 = .ok (.iload_n 1, 1) ∧ decode cX12_walk 28 = .ok (.iload_n 2, 1) ∧ decode cX12_walk 29 = .ok (.invokevirtual 402, 3) ∧ decode cX12_walk 32 = .ok (.ifCond .eq 26, 3) ∧ decode cX12_walk 35 = .ok (.aload_n 0, 1) := by decide +kernel
theorem e_X12_walk_2 : decode cX12_walk 36 = .ok (.bipush 10, 2) ∧ decode cX12_walk 38 = .ok (.aload_n 0, 1) ∧ decode cX12_walk 39 = .ok (.iload_n 1, 1) ∧ decode cX12_walk 40 = .ok (.iconst 1, 1) ∧ decode cX12_walk 41 = .ok (.invokevirtual 268, 3) ∧ decode cX12_walk 44 = .ok (.imul, 1) ∧ decode cX12_walk 45 = .ok (.aload_n 0, 1) ∧ decode cX12_walk 46 = .ok (.iload_n 1, 1) ∧ decode cX12_walk 47 = .ok (.iconst 0, 1) ∧ decode cX12_walk 48 = .ok (.invokevirtual 268, 3) := by decide +kernel
theorem e_X12_walk_3 : decode cX12_walk 51 = .ok (.iadd, 1) ∧ decode cX12_walk 52 = .ok (.invokevirtual 97, 3) ∧ decode cX12_walk 55 = .ok (.goto 9, 3) ∧ decode cX12_walk 58 = .ok (.aload_n 0, 1) ∧ decode cX12_walk 59 = .ok (.bipush 7, 2) ∧ decode cX12_walk 61 = .ok (.invokevirtual 93, 3) ∧ decode cX12_walk 64 = .ok (.ireturn, 1) := by decide +kernel
theorem S_X12_walk {G : Kg} {σ : Kmem} {Q : Int → Kmem → Prop} {l1 l2 : Int}  (h : (rI l1 ∧ wf (σ 1)) ∧ ((¬ (sKt (σ 1) (l1)) → Q (-1) (kup σ 0 2 1)) ∧ ((sKt (σ 1) (l1)) → (rI l2) ∧ (rL l2 ∧ rL 0 ∧ rL 4) ∧ ((((0 : Int) ≤ l2 ∧ (l2 : Int) ≤ 4) → (wf (σ 1) ∧ sKt (σ 1) (l1) ∧ rI (l2)) ∧ ((¬ (sMay (σ 1) (l1) (l2)) → Q (-1) (kup (kst σ 1 (kif (sMay (σ 1) (l1) (l2)) (sWalk (σ 1) (l1) (l2)) (σ 1))) 0 2 7)) ∧ ((sMay (σ 1) (l1) (l2)) → (0 ≤ (34 + (9 * l1)) + 1 ∧ (34 + (9 * l1)) + 1 < 3598) ∧ (0 ≤ (34 + (9 * l1)) + 0 ∧ (34 + (9 * l1)) + 0 < 3598) ∧ Q ((10 * ((kst σ 1 (kif (sMay (σ 1) (l1) (l2)) (sWalk (σ 1) (l1) (l2)) (σ 1))) 1 ((34 + (9 * l1)) + 1))) + ((kst σ 1 (kif (sMay (σ 1) (l1) (l2)) (sWalk (σ 1) (l1) (l2)) (σ 1))) 1 ((34 + (9 * l1)) + 0))) (kup (kst σ 1 (kif (sMay (σ 1) (l1) (l2)) (sWalk (σ 1) (l1) (l2)) (σ 1))) 0 2 0)))) ∧ (¬ ((0 : Int) ≤ l2 ∧ (l2 : Int) ≤ 4) → Q (-1) (kup σ 0 2 1)))))) : Run G WM M_X12_walk 3 0 0 [vA G 0, vI l1, vI l2] σ Q := by
  refine Run.of (by decide +kernel) (by show (3 : Nat) ≤ 3; decide) ?_
  show Ex G WM M_X12_walk 3 0 0 0 [(0, vA G 0), (1, vI l1), (2, vI l2)] [] σ Q
  refine R_aload_n e_X12_walk_0.1 0 rfl ?_
  refine R_iload_n e_X12_walk_0.2.1 1 rfl ?_
  obtain ⟨q3, h⟩ := h
  refine R_callV (mc := 0) (ms := 0) (mc' := 0) (ms' := 0) (M' := M_X12_isKite) (d' := 0) (as := [vI l1]) (st := []) 12 1 e_X12_walk_0.2.2.1 (kCVof m_X12_isKite l_X12_343) rfl (by decide) km_0 (by decide) (by decide) rfl rfl (by show (0 : Nat) ≤ 8; decide) ?_
  refine Run.mono (P_X12_isKite q3) (fun rr ss e => ?_)
  obtain ⟨e1, e2⟩ := e
  refine R_eqs (st2 := [vI (kb (sKt (σ 1) (l1)))]) (σ2 := σ) (by rw [e1]; rfl) e2 ?_
  refine R_if_eq 20 e_X12_walk_0.2.2.2.1 (by decide) (kb_r _) (fun q => ?_) (fun q => ?_)
  · replace h := h.1 (kb_f q)
    refine R_aload_n e_X12_walk_1.1 0 rfl ?_
    refine R_iconst e_X12_walk_1.2.1 ?_
    refine R_callV (mc := 0) (ms := 0) (mc' := 0) (ms' := 0) (M' := M_X12_refuse) (d' := 0) (as := [vI 1]) (st := []) 12 1 e_X12_walk_1.2.2.1 (kCVof m_X12_refuse l_X12_93) rfl (by decide) km_0 (by decide) (by decide) rfl rfl (by show (0 : Nat) ≤ 8; decide) ?_
    refine S_X12_refuse ?_
    refine R_eqs (st2 := [vI (-1)]) (σ2 := (kup σ 0 2 1)) rfl rfl ?_
    exact R_ireturn e_X12_walk_1.2.2.2.1 rfl h
  · replace h := h.2 (kb_t q)
    refine R_iload_n e_X12_walk_0.2.2.2.2.1 2 rfl ?_
    obtain ⟨q6, h⟩ := h
    refine R_i2l e_X12_walk_0.2.2.2.2.2.1 q6 ?_
    refine R_lconst 0 e_X12_walk_0.2.2.2.2.2.2.1 (by decide) ?_
    refine R_ldc2 (4) k_X12_400 e_X12_walk_0.2.2.2.2.2.2.2.1 ?_
    obtain ⟨q9, h⟩ := h
    refine R_callS (mc := 0) (ms := 0) (mc' := 0) (ms' := 0) (M' := M_X12_isFrom) (d' := 0) (as := [vL l2, vL 0, vL 4]) (st := []) 3 e_X12_walk_0.2.2.2.2.2.2.2.2.1 (kCSof m_X12_isFrom l_X12_393) (by decide) (by decide) rfl rfl (by show (0 : Nat) ≤ 8; decide) ?_
    refine Run.mono (P_X12_isFrom q9) (fun rr ss e => ?_)
    obtain ⟨e1, e2⟩ := e
    refine R_eqs (st2 := [vI (kb ((0 : Int) ≤ l2 ∧ (l2 : Int) ≤ 4))]) (σ2 := σ) (by rw [e1]; rfl) e2 ?_
    refine R_if_ne 26 e_X12_walk_0.2.2.2.2.2.2.2.2.2 (by decide) (kb_r _) (fun q => ?_) (fun q => ?_)
    · replace h := h.1 (kb_t q)
      refine R_aload_n e_X12_walk_1.2.2.2.2.1 0 rfl ?_
      refine R_iload_n e_X12_walk_1.2.2.2.2.2.1 1 rfl ?_
      refine R_iload_n e_X12_walk_1.2.2.2.2.2.2.1 2 rfl ?_
      obtain ⟨q12, h⟩ := h
      refine R_callV (mc := 0) (ms := 0) (mc' := 0) (ms' := 0) (M' := M_X12_walks) (d' := 2) (as := [vI l1, vI l2]) (st := []) 12 2 e_X12_walk_1.2.2.2.2.2.2.2.1 (kCVof m_X12_walks l_X12_402) rfl (by decide) km_0 (by decide) (by decide) rfl rfl (by show (0 : Nat) ≤ 8; decide) ?_
      refine Run.mono (P_X12_walks q12) (fun rr ss e => ?_)
      obtain ⟨e1, e2⟩ := e
      refine R_eqs (st2 := [vI (kb (sMay (σ 1) (l1) (l2)))]) (σ2 := (kst σ 1 (kif (sMay (σ 1) (l1) (l2)) (sWalk (σ 1) (l1) (l2)) (σ 1)))) (by rw [e1]; rfl) e2 ?_
      refine R_if_eq 58 e_X12_walk_1.2.2.2.2.2.2.2.2.1 (by decide) (kb_r _) (fun q => ?_) (fun q => ?_)
      · replace h := h.1 (kb_f q)
        refine R_aload_n e_X12_walk_3.2.2.2.1 0 rfl ?_
        refine R_bipush e_X12_walk_3.2.2.2.2.1 (by decide) ?_
        refine R_callV (mc := 0) (ms := 0) (mc' := 0) (ms' := 0) (M' := M_X12_refuse) (d' := 0) (as := [vI 7]) (st := []) 12 1 e_X12_walk_3.2.2.2.2.2.1 (kCVof m_X12_refuse l_X12_93) rfl (by decide) km_0 (by decide) (by decide) rfl rfl (by show (0 : Nat) ≤ 8; decide) ?_
        refine S_X12_refuse ?_
        refine R_eqs (st2 := [vI (-1)]) (σ2 := (kup (kst σ 1 (kif (sMay (σ 1) (l1) (l2)) (sWalk (σ 1) (l1) (l2)) (σ 1))) 0 2 7)) rfl rfl ?_
        exact R_ireturn e_X12_walk_3.2.2.2.2.2.2 rfl h
      · replace h := h.2 (kb_t q)
        refine R_aload_n e_X12_walk_1.2.2.2.2.2.2.2.2.2 0 rfl ?_
        refine R_bipush e_X12_walk_2.1 (by decide) ?_
        refine R_aload_n e_X12_walk_2.2.1 0 rfl ?_
        refine R_iload_n e_X12_walk_2.2.2.1 1 rfl ?_
        refine R_iconst e_X12_walk_2.2.2.2.1 ?_
        refine R_callV (mc := 0) (ms := 0) (mc' := 0) (ms' := 0) (M' := M_X12_of) (d' := 1) (as := [vI l1, vI 1]) (st := [vI 10, vA G 0]) 12 2 e_X12_walk_2.2.2.2.2.1 (kCVof m_X12_of l_X12_268) rfl (by decide) km_0 (by decide) (by decide) rfl rfl (by show (2 : Nat) ≤ 8; decide) ?_
        obtain ⟨q19, h⟩ := h
        refine S_X12_of ⟨q19, ?_⟩
        refine R_eqs (st2 := [vI ((kst σ 1 (kif (sMay (σ 1) (l1) (l2)) (sWalk (σ 1) (l1) (l2)) (σ 1))) 1 ((34 + (9 * l1)) + 1)), vI 10, vA G 0]) (σ2 := (kst σ 1 (kif (sMay (σ 1) (l1) (l2)) (sWalk (σ 1) (l1) (l2)) (σ 1)))) rfl rfl ?_
        refine R_imul e_X12_walk_2.2.2.2.2.2.1 ?_
        refine R_aload_n e_X12_walk_2.2.2.2.2.2.2.1 0 rfl ?_
        refine R_iload_n e_X12_walk_2.2.2.2.2.2.2.2.1 1 rfl ?_
        refine R_iconst e_X12_walk_2.2.2.2.2.2.2.2.2.1 ?_
        refine R_callV (mc := 0) (ms := 0) (mc' := 0) (ms' := 0) (M' := M_X12_of) (d' := 1) (as := [vI l1, vI 0]) (st := [vI (10 * ((kst σ 1 (kif (sMay (σ 1) (l1) (l2)) (sWalk (σ 1) (l1) (l2)) (σ 1))) 1 ((34 + (9 * l1)) + 1))), vA G 0]) 12 2 e_X12_walk_2.2.2.2.2.2.2.2.2.2 (kCVof m_X12_of l_X12_268) rfl (by decide) km_0 (by decide) (by decide) rfl rfl (by show (2 : Nat) ≤ 8; decide) ?_
        obtain ⟨q24, h⟩ := h
        refine S_X12_of ⟨q24, ?_⟩
        refine R_eqs (st2 := [vI ((kst σ 1 (kif (sMay (σ 1) (l1) (l2)) (sWalk (σ 1) (l1) (l2)) (σ 1))) 1 ((34 + (9 * l1)) + 0)), vI (10 * ((kst σ 1 (kif (sMay (σ 1) (l1) (l2)) (sWalk (σ 1) (l1) (l2)) (σ 1))) 1 ((34 + (9 * l1)) + 1))), vA G 0]) (σ2 := (kst σ 1 (kif (sMay (σ 1) (l1) (l2)) (sWalk (σ 1) (l1) (l2)) (σ 1)))) rfl rfl ?_
        refine R_iadd e_X12_walk_3.1 ?_
        refine R_callV (mc := 0) (ms := 0) (mc' := 0) (ms' := 0) (M' := M_X12_gives) (d' := 0) (as := [vI ((10 * ((kst σ 1 (kif (sMay (σ 1) (l1) (l2)) (sWalk (σ 1) (l1) (l2)) (σ 1))) 1 ((34 + (9 * l1)) + 1))) + ((kst σ 1 (kif (sMay (σ 1) (l1) (l2)) (sWalk (σ 1) (l1) (l2)) (σ 1))) 1 ((34 + (9 * l1)) + 0)))]) (st := []) 12 1 e_X12_walk_3.2.1 (kCVof m_X12_gives l_X12_97) rfl (by decide) km_0 (by decide) (by decide) rfl rfl (by show (0 : Nat) ≤ 8; decide) ?_
        refine S_X12_gives ?_
        refine R_eqs (st2 := [vI ((10 * ((kst σ 1 (kif (sMay (σ 1) (l1) (l2)) (sWalk (σ 1) (l1) (l2)) (σ 1))) 1 ((34 + (9 * l1)) + 1))) + ((kst σ 1 (kif (sMay (σ 1) (l1) (l2)) (sWalk (σ 1) (l1) (l2)) (σ 1))) 1 ((34 + (9 * l1)) + 0)))]) (σ2 := (kup (kst σ 1 (kif (sMay (σ 1) (l1) (l2)) (sWalk (σ 1) (l1) (l2)) (σ 1))) 0 2 0)) rfl rfl ?_
        refine R_goto 64 e_X12_walk_3.2.2.1 (by decide) ?_
        exact R_ireturn e_X12_walk_3.2.2.2.2.2.2 rfl h
    · replace h := h.2 (kb_f q)
      refine R_aload_n e_X12_walk_1.1 0 rfl ?_
      refine R_iconst e_X12_walk_1.2.1 ?_
      refine R_callV (mc := 0) (ms := 0) (mc' := 0) (ms' := 0) (M' := M_X12_refuse) (d' := 0) (as := [vI 1]) (st := []) 12 1 e_X12_walk_1.2.2.1 (kCVof m_X12_refuse l_X12_93) rfl (by decide) km_0 (by decide) (by decide) rfl rfl (by show (0 : Nat) ≤ 8; decide) ?_
      refine S_X12_refuse ?_
      refine R_eqs (st2 := [vI (-1)]) (σ2 := (kup σ 0 2 1)) rfl rfl ?_
      exact R_ireturn e_X12_walk_1.2.2.2.1 rfl h
/-! KiteLandModel.cut(IZ)Z -/
theorem e_X12_cut_0 : decode cX12_cut 0 = .ok (.aload_n 0, 1) ∧ decode cX12_cut 1 = .ok (.aload_n 0, 1) ∧ decode cX12_cut 2 = .ok (.iload_n 1, 1) ∧ decode cX12_cut 3 = .ok (.invokevirtual 343, 3) ∧ decode cX12_cut 6 = .ok (.ifCond .ne 7, 3) ∧ decode cX12_cut 9 = .ok (.iconst 1, 1) ∧ decode cX12_cut 10 = .ok (.goto 18, 3) ∧ decode cX12_cut 13 = .ok (.aload_n 0, 1) ∧ decode cX12_cut 14 = .ok (.iload_n 1, 1) ∧ decode cX12_cut 15 = .ok (.iload_n 2, 1) := by decide +kernel
theorem e_X12_cut_1 : decode cX12_cut 16 = .ok (.invokevirtual 405, 3) ∧ decode cX12_cut 19 = .ok (.ifCond .eq 7, 3) ∧ decode cX12_cut 22 = .ok (.iconst 0, 1) ∧ decode cX12_cut 23 = .ok (.goto 5, 3) ∧ decode cX12_cut 26 = .ok (.bipush 7, 2) ∧ decode cX12_cut 28 = .ok (.invokevirtual 100, 3) ∧ decode cX12_cut 31 = .ok (.ireturn, 1) := by decide +kernel
theorem S_X12_cut {G : Kg} {σ : Kmem} {Q : Int → Kmem → Prop} {l1 l2 : Int}  (h : (rI l1 ∧ wf (σ 1)) ∧ (((sKt (σ 1) (l1)) → (wf (σ 1) ∧ sKt (σ 1) (l1) ∧ ((l2 : Int) = 0 ∨ (l2 : Int) = 1)) ∧ ((¬ ((σ 1) (34 + 9 * (l1) + 8) ≠ l2) → (rI (7)) ∧ Q (kb ((7 : Int) = 0)) (kup (kst σ 1 (ku (σ 1) (34 + 9 * (l1) + 8) (l2))) 0 2 (7))) ∧ (((σ 1) (34 + 9 * (l1) + 8) ≠ l2) → (rI (0)) ∧ Q (kb ((0 : Int) = 0)) (kup (kst σ 1 (ku (σ 1) (34 + 9 * (l1) + 8) (l2))) 0 2 (0))))) ∧ (¬ (sKt (σ 1) (l1)) → (rI (1)) ∧ Q (kb ((1 : Int) = 0)) (kup σ 0 2 (1))))) : Run G WM M_X12_cut 4 0 0 [vA G 0, vI l1, vI l2] σ Q := by
  refine Run.of (by decide +kernel) (by show (3 : Nat) ≤ 3; decide) ?_
  show Ex G WM M_X12_cut 4 0 0 0 [(0, vA G 0), (1, vI l1), (2, vI l2)] [] σ Q
  refine R_aload_n e_X12_cut_0.1 0 rfl ?_
  refine R_aload_n e_X12_cut_0.2.1 0 rfl ?_
  refine R_iload_n e_X12_cut_0.2.2.1 1 rfl ?_
  obtain ⟨q3, h⟩ := h
  refine R_callV (mc := 0) (ms := 0) (mc' := 0) (ms' := 0) (M' := M_X12_isKite) (d' := 0) (as := [vI l1]) (st := [vA G 0]) 12 1 e_X12_cut_0.2.2.2.1 (kCVof m_X12_isKite l_X12_343) rfl (by decide) km_0 (by decide) (by decide) rfl rfl (by show (1 : Nat) ≤ 8; decide) ?_
  refine Run.mono (P_X12_isKite q3) (fun rr ss e => ?_)
  obtain ⟨e1, e2⟩ := e
  refine R_eqs (st2 := [vI (kb (sKt (σ 1) (l1))), vA G 0]) (σ2 := σ) (by rw [e1]; rfl) e2 ?_
  refine R_if_ne 13 e_X12_cut_0.2.2.2.2.1 (by decide) (kb_r _) (fun q => ?_) (fun q => ?_)
  · replace h := h.1 (kb_t q)
    refine R_aload_n e_X12_cut_0.2.2.2.2.2.2.2.1 0 rfl ?_
    refine R_iload_n e_X12_cut_0.2.2.2.2.2.2.2.2.1 1 rfl ?_
    refine R_iload_n e_X12_cut_0.2.2.2.2.2.2.2.2.2 2 rfl ?_
    obtain ⟨q6, h⟩ := h
    refine R_callV (mc := 0) (ms := 0) (mc' := 0) (ms' := 0) (M' := M_X12_turnsCut) (d' := 3) (as := [vI l1, vI l2]) (st := [vA G 0]) 12 2 e_X12_cut_1.1 (kCVof m_X12_turnsCut l_X12_405) rfl (by decide) km_0 (by decide) (by decide) rfl rfl (by show (1 : Nat) ≤ 8; decide) ?_
    refine Run.mono (P_X12_turnsCut q6) (fun rr ss e => ?_)
    obtain ⟨e1, e2⟩ := e
    refine R_eqs (st2 := [vI (kb ((σ 1) (34 + 9 * (l1) + 8) ≠ l2)), vA G 0]) (σ2 := (kst σ 1 (ku (σ 1) (34 + 9 * (l1) + 8) (l2)))) (by rw [e1]; rfl) e2 ?_
    refine R_if_eq 26 e_X12_cut_1.2.1 (by decide) (kb_r _) (fun q => ?_) (fun q => ?_)
    · replace h := h.1 (kb_f q)
      refine R_bipush e_X12_cut_1.2.2.2.2.1 (by decide) ?_
      obtain ⟨q9, h⟩ := h
      refine R_callV (mc := 0) (ms := 0) (mc' := 0) (ms' := 0) (M' := M_X12_is) (d' := 0) (as := [vI 7]) (st := []) 12 1 e_X12_cut_1.2.2.2.2.2.1 (kCVof m_X12_is l_X12_100) rfl (by decide) km_0 (by decide) (by decide) rfl rfl (by show (0 : Nat) ≤ 8; decide) ?_
      refine Run.mono (P_X12_is q9) (fun rr ss e => ?_)
      obtain ⟨e1, e2⟩ := e
      refine R_eqs (st2 := [vI (kb ((7 : Int) = 0))]) (σ2 := (kup (kst σ 1 (ku (σ 1) (34 + 9 * (l1) + 8) (l2))) 0 2 (7))) (by rw [e1]; rfl) e2 ?_
      exact R_zreturn e_X12_cut_1.2.2.2.2.2.2 rfl (kb_01 _) h
    · replace h := h.2 (kb_t q)
      refine R_iconst e_X12_cut_1.2.2.1 ?_
      refine R_goto 28 e_X12_cut_1.2.2.2.1 (by decide) ?_
      obtain ⟨q12, h⟩ := h
      refine R_callV (mc := 0) (ms := 0) (mc' := 0) (ms' := 0) (M' := M_X12_is) (d' := 0) (as := [vI 0]) (st := []) 12 1 e_X12_cut_1.2.2.2.2.2.1 (kCVof m_X12_is l_X12_100) rfl (by decide) km_0 (by decide) (by decide) rfl rfl (by show (0 : Nat) ≤ 8; decide) ?_
      refine Run.mono (P_X12_is q12) (fun rr ss e => ?_)
      obtain ⟨e1, e2⟩ := e
      refine R_eqs (st2 := [vI (kb ((0 : Int) = 0))]) (σ2 := (kup (kst σ 1 (ku (σ 1) (34 + 9 * (l1) + 8) (l2))) 0 2 (0))) (by rw [e1]; rfl) e2 ?_
      exact R_zreturn e_X12_cut_1.2.2.2.2.2.2 rfl (kb_01 _) h
  · replace h := h.2 (kb_f q)
    refine R_iconst e_X12_cut_0.2.2.2.2.2.1 ?_
    refine R_goto 28 e_X12_cut_0.2.2.2.2.2.2.1 (by decide) ?_
    obtain ⟨q15, h⟩ := h
    refine R_callV (mc := 0) (ms := 0) (mc' := 0) (ms' := 0) (M' := M_X12_is) (d' := 0) (as := [vI 1]) (st := []) 12 1 e_X12_cut_1.2.2.2.2.2.1 (kCVof m_X12_is l_X12_100) rfl (by decide) km_0 (by decide) (by decide) rfl rfl (by show (0 : Nat) ≤ 8; decide) ?_
    refine Run.mono (P_X12_is q15) (fun rr ss e => ?_)
    obtain ⟨e1, e2⟩ := e
    refine R_eqs (st2 := [vI (kb ((1 : Int) = 0))]) (σ2 := (kup σ 0 2 (1))) (by rw [e1]; rfl) e2 ?_
    exact R_zreturn e_X12_cut_1.2.2.2.2.2.2 rfl (kb_01 _) h
/-! KiteLandModel.sell(II)I -/
theorem e_X12_sell_0 : decode cX12_sell 0 = .ok (.aload_n 0, 1) ∧ decode cX12_sell 1 = .ok (.iload_n 1, 1) ∧ decode cX12_sell 2 = .ok (.invokevirtual 343, 3) ∧ decode cX12_sell 5 = .ok (.ifCond .eq 17, 3) ∧ decode cX12_sell 8 = .ok (.iload_n 2, 1) ∧ decode cX12_sell 9 = .ok (.i2l, 1) ∧ decode cX12_sell 10 = .ok (.ldc2_w 409, 3) ∧ decode cX12_sell 13 = .ok (.ldc2_w 411, 3) ∧ decode cX12_sell 16 = .ok (.invokestatic 393, 3) ∧ decode cX12_sell 19 = .ok (.ifCond .ne 9, 3) := by decide +kernel
theorem e_X12_sell_1 : decode cX12_sell 22 = .ok (.aload_n 0, 1) ∧ decode cX12_sell 23 = .ok (.iconst 1, 1) ∧ decode cX12_sell 24 = .ok (.invokevirtual 93, 3) ∧ decode cX12_sell 27 = .ok (.ireturn, 1) ∧ decode cX12_sell 28 = .ok (.aload_n 0, 1) ∧ decode cX12_sell 29 = .ok (.iload_n 1, 1) ∧ decode cX12_sell 30 = .ok (.iconst 3, 1) ∧ decode cX12_sell 31 = .ok (.invokevirtual 268, 3) ∧ decode cX12_sell 34 = .ok (.iload_n 2, 1) ∧ decode cX12_sell 35 = .ok (.iadd, 1) := by decide +kernel
theorem e_X12_sell_2 : decode cX12_sell 36 = .ok (.i2l, 1) ∧ decode cX12_sell 37 = .ok (.lconst 0, 1) ∧ decode cX12_sell 38 = .ok (.ldc2_w 411, 3) ∧ decode cX12_sell 41 = .ok (.invokestatic 393, 3) ∧ decode cX12_sell 44 = .ok (.ifCond .ne 10, 3) ∧ decode cX12_sell 47 = .ok (.aload_n 0, 1) ∧ decode cX12_sell 48 = .ok (.bipush 7, 2) ∧ decode cX12_sell 50 = .ok (.invokevirtual 93, 3) ∧ decode cX12_sell 53 = .ok (.ireturn, 1) ∧ decode cX12_sell 54 = .ok (.aload_n 0, 1) := by decide +kernel
theorem e_X12_sell_3 : decode cX12_sell 55 = .ok (.getfield 7, 3) ∧ decode cX12_sell 58 = .ok (.iload_n 1, 1) ∧ decode cX12_sell 59 = .ok (.invokestatic 265, 3) ∧ decode cX12_sell 62 = .ok (.iconst 3, 1) ∧ decode cX12_sell 63 = .ok (.iadd, 1) ∧ decode cX12_sell 64 = .ok (.dup2, 1) ∧ decode cX12_sell 65 = .ok (.iaload, 1) ∧ decode cX12_sell 66 = .ok (.iload_n 2, 1) ∧ decode cX12_sell 67 = .ok (.iadd, 1) ∧ decode cX12_sell 68 = .ok (.iastore, 1) := by decide +kernel
theorem e_X12_sell_4 : decode cX12_sell 69 = .ok (.aload_n 0, 1) ∧ decode cX12_sell 70 = .ok (.aload_n 0, 1) ∧ decode cX12_sell 71 = .ok (.iload_n 1, 1) ∧ decode cX12_sell 72 = .ok (.iconst 3, 1) ∧ decode cX12_sell 73 = .ok (.invokevirtual 268, 3) ∧ decode cX12_sell 76 = .ok (.invokevirtual 97, 3) ∧ decode cX12_sell 79 = .ok (.ireturn, 1) := by decide +kernel
theorem S_X12_sell {G : Kg} {σ : Kmem} {Q : Int → Kmem → Prop} {l1 l2 : Int}  (h : (rI l1 ∧ wf (σ 1)) ∧ ((¬ (sKt (σ 1) (l1)) → Q (-1) (kup σ 0 2 1)) ∧ ((sKt (σ 1) (l1)) → (rI l2) ∧ (rL l2 ∧ rL (-9) ∧ rL 9) ∧ (((((-9) : Int) ≤ l2 ∧ (l2 : Int) ≤ 9) → (0 ≤ (34 + (9 * l1)) + 3 ∧ (34 + (9 * l1)) + 3 < 3598) ∧ (rI ((σ 1 ((34 + (9 * l1)) + 3)) + l2)) ∧ (rL ((σ 1 ((34 + (9 * l1)) + 3)) + l2) ∧ rL 0 ∧ rL 9) ∧ ((((0 : Int) ≤ ((σ 1 ((34 + (9 * l1)) + 3)) + l2) ∧ (((σ 1 ((34 + (9 * l1)) + 3)) + l2) : Int) ≤ 9) → (0 ≤ (34 + (9 * l1)) + 3 ∧ (34 + (9 * l1)) + 3 < 3598) ∧ (0 ≤ (34 + (9 * l1)) + 3 ∧ (34 + (9 * l1)) + 3 < 3598) ∧ (0 ≤ (34 + (9 * l1)) + 3 ∧ (34 + (9 * l1)) + 3 < 3598) ∧ Q ((kup σ 1 ((34 + (9 * l1)) + 3) ((σ 1 ((34 + (9 * l1)) + 3)) + l2)) 1 ((34 + (9 * l1)) + 3)) (kup (kup σ 1 ((34 + (9 * l1)) + 3) ((σ 1 ((34 + (9 * l1)) + 3)) + l2)) 0 2 0)) ∧ (¬ ((0 : Int) ≤ ((σ 1 ((34 + (9 * l1)) + 3)) + l2) ∧ (((σ 1 ((34 + (9 * l1)) + 3)) + l2) : Int) ≤ 9) → Q (-1) (kup σ 0 2 7)))) ∧ (¬ (((-9) : Int) ≤ l2 ∧ (l2 : Int) ≤ 9) → Q (-1) (kup σ 0 2 1)))))) : Run G WM M_X12_sell 2 0 0 [vA G 0, vI l1, vI l2] σ Q := by
  refine Run.of (by decide +kernel) (by show (3 : Nat) ≤ 3; decide) ?_
  show Ex G WM M_X12_sell 2 0 0 0 [(0, vA G 0), (1, vI l1), (2, vI l2)] [] σ Q
  refine R_aload_n e_X12_sell_0.1 0 rfl ?_
  refine R_iload_n e_X12_sell_0.2.1 1 rfl ?_
  obtain ⟨q3, h⟩ := h
  refine R_callV (mc := 0) (ms := 0) (mc' := 0) (ms' := 0) (M' := M_X12_isKite) (d' := 0) (as := [vI l1]) (st := []) 12 1 e_X12_sell_0.2.2.1 (kCVof m_X12_isKite l_X12_343) rfl (by decide) km_0 (by decide) (by decide) rfl rfl (by show (0 : Nat) ≤ 8; decide) ?_
  refine Run.mono (P_X12_isKite q3) (fun rr ss e => ?_)
  obtain ⟨e1, e2⟩ := e
  refine R_eqs (st2 := [vI (kb (sKt (σ 1) (l1)))]) (σ2 := σ) (by rw [e1]; rfl) e2 ?_
  refine R_if_eq 22 e_X12_sell_0.2.2.2.1 (by decide) (kb_r _) (fun q => ?_) (fun q => ?_)
  · replace h := h.1 (kb_f q)
    refine R_aload_n e_X12_sell_1.1 0 rfl ?_
    refine R_iconst e_X12_sell_1.2.1 ?_
    refine R_callV (mc := 0) (ms := 0) (mc' := 0) (ms' := 0) (M' := M_X12_refuse) (d' := 0) (as := [vI 1]) (st := []) 12 1 e_X12_sell_1.2.2.1 (kCVof m_X12_refuse l_X12_93) rfl (by decide) km_0 (by decide) (by decide) rfl rfl (by show (0 : Nat) ≤ 8; decide) ?_
    refine S_X12_refuse ?_
    refine R_eqs (st2 := [vI (-1)]) (σ2 := (kup σ 0 2 1)) rfl rfl ?_
    exact R_ireturn e_X12_sell_1.2.2.2.1 rfl h
  · replace h := h.2 (kb_t q)
    refine R_iload_n e_X12_sell_0.2.2.2.2.1 2 rfl ?_
    obtain ⟨q6, h⟩ := h
    refine R_i2l e_X12_sell_0.2.2.2.2.2.1 q6 ?_
    refine R_ldc2 (-9) k_X12_409 e_X12_sell_0.2.2.2.2.2.2.1 ?_
    refine R_ldc2 (9) k_X12_411 e_X12_sell_0.2.2.2.2.2.2.2.1 ?_
    obtain ⟨q9, h⟩ := h
    refine R_callS (mc := 0) (ms := 0) (mc' := 0) (ms' := 0) (M' := M_X12_isFrom) (d' := 0) (as := [vL l2, vL (-9), vL 9]) (st := []) 3 e_X12_sell_0.2.2.2.2.2.2.2.2.1 (kCSof m_X12_isFrom l_X12_393) (by decide) (by decide) rfl rfl (by show (0 : Nat) ≤ 8; decide) ?_
    refine Run.mono (P_X12_isFrom q9) (fun rr ss e => ?_)
    obtain ⟨e1, e2⟩ := e
    refine R_eqs (st2 := [vI (kb (((-9) : Int) ≤ l2 ∧ (l2 : Int) ≤ 9))]) (σ2 := σ) (by rw [e1]; rfl) e2 ?_
    refine R_if_ne 28 e_X12_sell_0.2.2.2.2.2.2.2.2.2 (by decide) (kb_r _) (fun q => ?_) (fun q => ?_)
    · replace h := h.1 (kb_t q)
      refine R_aload_n e_X12_sell_1.2.2.2.2.1 0 rfl ?_
      refine R_iload_n e_X12_sell_1.2.2.2.2.2.1 1 rfl ?_
      refine R_iconst e_X12_sell_1.2.2.2.2.2.2.1 ?_
      refine R_callV (mc := 0) (ms := 0) (mc' := 0) (ms' := 0) (M' := M_X12_of) (d' := 1) (as := [vI l1, vI 3]) (st := []) 12 2 e_X12_sell_1.2.2.2.2.2.2.2.1 (kCVof m_X12_of l_X12_268) rfl (by decide) km_0 (by decide) (by decide) rfl rfl (by show (0 : Nat) ≤ 8; decide) ?_
      obtain ⟨q14, h⟩ := h
      refine S_X12_of ⟨q14, ?_⟩
      refine R_eqs (st2 := [vI (σ 1 ((34 + (9 * l1)) + 3))]) (σ2 := σ) rfl rfl ?_
      refine R_iload_n e_X12_sell_1.2.2.2.2.2.2.2.2.1 2 rfl ?_
      refine R_iadd e_X12_sell_1.2.2.2.2.2.2.2.2.2 ?_
      obtain ⟨q15, h⟩ := h
      refine R_i2l e_X12_sell_2.1 q15 ?_
      refine R_lconst 0 e_X12_sell_2.2.1 (by decide) ?_
      refine R_ldc2 (9) k_X12_411 e_X12_sell_2.2.2.1 ?_
      obtain ⟨q18, h⟩ := h
      refine R_callS (mc := 0) (ms := 0) (mc' := 0) (ms' := 0) (M' := M_X12_isFrom) (d' := 0) (as := [vL ((σ 1 ((34 + (9 * l1)) + 3)) + l2), vL 0, vL 9]) (st := []) 3 e_X12_sell_2.2.2.2.1 (kCSof m_X12_isFrom l_X12_393) (by decide) (by decide) rfl rfl (by show (0 : Nat) ≤ 8; decide) ?_
      refine Run.mono (P_X12_isFrom q18) (fun rr ss e => ?_)
      obtain ⟨e1, e2⟩ := e
      refine R_eqs (st2 := [vI (kb ((0 : Int) ≤ ((σ 1 ((34 + (9 * l1)) + 3)) + l2) ∧ (((σ 1 ((34 + (9 * l1)) + 3)) + l2) : Int) ≤ 9))]) (σ2 := σ) (by rw [e1]; rfl) e2 ?_
      refine R_if_ne 54 e_X12_sell_2.2.2.2.2.1 (by decide) (kb_r _) (fun q => ?_) (fun q => ?_)
      · replace h := h.1 (kb_t q)
        refine R_aload_n e_X12_sell_2.2.2.2.2.2.2.2.2.2 0 rfl ?_
        refine R_getA 12 0 1 e_X12_sell_3.1 f_X12_7 km_0 (fun _ _ => rfl) rm_0_0 (by decide) ?_
        refine R_iload_n e_X12_sell_3.2.1 1 rfl ?_
        refine R_callS (mc := 0) (ms := 0) (mc' := 0) (ms' := 0) (M' := M_X12_kiteRow) (d' := 0) (as := [vI l1]) (st := [vA G 1]) 1 e_X12_sell_3.2.2.1 (kCSof m_X12_kiteRow l_X12_265) (by decide) (by decide) rfl rfl (by show (1 : Nat) ≤ 8; decide) ?_
        refine S_X12_kiteRow ?_
        refine R_eqs (st2 := [vI (34 + (9 * l1)), vA G 1]) (σ2 := σ) rfl rfl ?_
        refine R_iconst e_X12_sell_3.2.2.2.1 ?_
        refine R_iadd e_X12_sell_3.2.2.2.2.1 ?_
        refine R_dup2 e_X12_sell_3.2.2.2.2.2.1 rfl rfl ?_
        obtain ⟨q21, h⟩ := h
        refine R_iald 3598 e_X12_sell_3.2.2.2.2.2.2.1 kma_1 q21 ?_
        refine R_iload_n e_X12_sell_3.2.2.2.2.2.2.2.1 2 rfl ?_
        refine R_iadd e_X12_sell_3.2.2.2.2.2.2.2.2.1 ?_
        obtain ⟨q22, h⟩ := h
        refine R_iast 3598 WM_ok e_X12_sell_3.2.2.2.2.2.2.2.2.2 kma_1 q22 ?_
        refine R_aload_n e_X12_sell_4.1 0 rfl ?_
        refine R_aload_n e_X12_sell_4.2.1 0 rfl ?_
        refine R_iload_n e_X12_sell_4.2.2.1 1 rfl ?_
        refine R_iconst e_X12_sell_4.2.2.2.1 ?_
        refine R_callV (mc := 0) (ms := 0) (mc' := 0) (ms' := 0) (M' := M_X12_of) (d' := 1) (as := [vI l1, vI 3]) (st := [vA G 0]) 12 2 e_X12_sell_4.2.2.2.2.1 (kCVof m_X12_of l_X12_268) rfl (by decide) km_0 (by decide) (by decide) rfl rfl (by show (1 : Nat) ≤ 8; decide) ?_
        obtain ⟨q27, h⟩ := h
        refine S_X12_of ⟨q27, ?_⟩
        refine R_eqs (st2 := [vI ((kup σ 1 ((34 + (9 * l1)) + 3) ((σ 1 ((34 + (9 * l1)) + 3)) + l2)) 1 ((34 + (9 * l1)) + 3)), vA G 0]) (σ2 := (kup σ 1 ((34 + (9 * l1)) + 3) ((σ 1 ((34 + (9 * l1)) + 3)) + l2))) rfl rfl ?_
        refine R_callV (mc := 0) (ms := 0) (mc' := 0) (ms' := 0) (M' := M_X12_gives) (d' := 0) (as := [vI ((kup σ 1 ((34 + (9 * l1)) + 3) ((σ 1 ((34 + (9 * l1)) + 3)) + l2)) 1 ((34 + (9 * l1)) + 3))]) (st := []) 12 1 e_X12_sell_4.2.2.2.2.2.1 (kCVof m_X12_gives l_X12_97) rfl (by decide) km_0 (by decide) (by decide) rfl rfl (by show (0 : Nat) ≤ 8; decide) ?_
        refine S_X12_gives ?_
        refine R_eqs (st2 := [vI ((kup σ 1 ((34 + (9 * l1)) + 3) ((σ 1 ((34 + (9 * l1)) + 3)) + l2)) 1 ((34 + (9 * l1)) + 3))]) (σ2 := (kup (kup σ 1 ((34 + (9 * l1)) + 3) ((σ 1 ((34 + (9 * l1)) + 3)) + l2)) 0 2 0)) rfl rfl ?_
        exact R_ireturn e_X12_sell_4.2.2.2.2.2.2 rfl h
      · replace h := h.2 (kb_f q)
        refine R_aload_n e_X12_sell_2.2.2.2.2.2.1 0 rfl ?_
        refine R_bipush e_X12_sell_2.2.2.2.2.2.2.1 (by decide) ?_
        refine R_callV (mc := 0) (ms := 0) (mc' := 0) (ms' := 0) (M' := M_X12_refuse) (d' := 0) (as := [vI 7]) (st := []) 12 1 e_X12_sell_2.2.2.2.2.2.2.2.1 (kCVof m_X12_refuse l_X12_93) rfl (by decide) km_0 (by decide) (by decide) rfl rfl (by show (0 : Nat) ≤ 8; decide) ?_
        refine S_X12_refuse ?_
        refine R_eqs (st2 := [vI (-1)]) (σ2 := (kup σ 0 2 7)) rfl rfl ?_
        exact R_ireturn e_X12_sell_2.2.2.2.2.2.2.2.2.1 rfl h
    · replace h := h.2 (kb_f q)
      refine R_aload_n e_X12_sell_1.1 0 rfl ?_
      refine R_iconst e_X12_sell_1.2.1 ?_
      refine R_callV (mc := 0) (ms := 0) (mc' := 0) (ms' := 0) (M' := M_X12_refuse) (d' := 0) (as := [vI 1]) (st := []) 12 1 e_X12_sell_1.2.2.1 (kCVof m_X12_refuse l_X12_93) rfl (by decide) km_0 (by decide) (by decide) rfl rfl (by show (0 : Nat) ≤ 8; decide) ?_
      refine S_X12_refuse ?_
      refine R_eqs (st2 := [vI (-1)]) (σ2 := (kup σ 0 2 1)) rfl rfl ?_
      exact R_ireturn e_X12_sell_1.2.2.2.1 rfl h
