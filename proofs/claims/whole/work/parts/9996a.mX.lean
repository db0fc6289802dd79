/-! KiteLandModel.status()I -/
theorem e_X12_status_0 : decode cX12_status 0 = .ok (.aload_n 0, 1) ∧ decode cX12_status 1 = .ok (.getfield 87, 3) ∧ decode cX12_status 4 = .ok (.ireturn, 1) := by decide +kernel
theorem S_X12_status {G : Kg} {σ : Kmem} {Q : Int → Kmem → Prop}  (h : Q (σ 0 2) σ) : Run G WM M_X12_status 0 0 0 [vA G 0] σ Q := by
  refine Run.of (by decide +kernel) (by show (1 : Nat) ≤ 1; decide) ?_
  show Ex G WM M_X12_status 0 0 0 0 [(0, vA G 0)] [] σ Q
  refine R_aload_n e_X12_status_0.1 0 rfl ?_
  refine R_getI 12 2 2 e_X12_status_0.2.1 f_X12_87 km_0 (fun _ _ => rfl) rfl ?_
  exact R_ireturn e_X12_status_0.2.2 rfl h
/-! KiteLandModel.top()J -/
theorem e_X12_top_0 : decode cX12_top 0 = .ok (.aload_n 0, 1) ∧ decode cX12_top 1 = .ok (.getfield 90, 3) ∧ decode cX12_top 4 = .ok (.lreturn, 1) := by decide +kernel
theorem S_X12_top {G : Kg} {σ : Kmem} {Q : Int → Kmem → Prop}  (h : Q (σ 0 3) σ) : Run G WM M_X12_top 0 0 0 [vA G 0] σ Q := by
  refine Run.of (by decide +kernel) (by show (1 : Nat) ≤ 1; decide) ?_
  show Ex G WM M_X12_top 0 0 0 0 [(0, vA G 0)] [] σ Q
  refine R_aload_n e_X12_top_0.1 0 rfl ?_
  refine R_getL 12 3 3 e_X12_top_0.2.1 f_X12_90 km_0 (fun _ _ => rfl) rfl ?_
  exact R_lreturn e_X12_top_0.2.2 rfl h
/-! KiteLandModel.bottom()J -/
theorem e_X12_bottom_0 : decode cX12_bottom 0 = .ok (.aload_n 0, 1) ∧ decode cX12_bottom 1 = .ok (.getfield 17, 3) ∧ decode cX12_bottom 4 = .ok (.lreturn, 1) := by decide +kernel
theorem S_X12_bottom {G : Kg} {σ : Kmem} {Q : Int → Kmem → Prop}  (h : Q (σ 0 4) σ) : Run G WM M_X12_bottom 0 0 0 [vA G 0] σ Q := by
  refine Run.of (by decide +kernel) (by show (1 : Nat) ≤ 1; decide) ?_
  show Ex G WM M_X12_bottom 0 0 0 0 [(0, vA G 0)] [] σ Q
  refine R_aload_n e_X12_bottom_0.1 0 rfl ?_
  refine R_getL 12 4 4 e_X12_bottom_0.2.1 f_X12_17 km_0 (fun _ _ => rfl) rfl ?_
  exact R_lreturn e_X12_bottom_0.2.2 rfl h
/-! KiteLandModel.tray(III)Z -/
theorem e_X12_tray_0 : decode cX12_tray 0 = .ok (.iload_n 1, 1) ∧ decode cX12_tray 1 = .ok (.invokestatic 104, 3) ∧ decode cX12_tray 4 = .ok (.ifCond .eq 22, 3) ∧ decode cX12_tray 7 = .ok (.iload_n 2, 1) ∧ decode cX12_tray 8 = .ok (.ifCond .lt 18, 3) ∧ decode cX12_tray 11 = .ok (.iload_n 2, 1) ∧ decode cX12_tray 12 = .ok (.iconst 3, 1) ∧ decode cX12_tray 13 = .ok (.if_icmp .gt 13, 3) ∧ decode cX12_tray 16 = .ok (.iload_n 3, 1) ∧ decode cX12_tray 17 = .ok (.ifCond .lt 9, 3) := by decide +kernel
theorem e_X12_tray_1 : decode cX12_tray 20 = .ok (.iload_n 3, 1) ∧ decode cX12_tray 21 = .ok (.bipush 60, 2) ∧ decode cX12_tray 23 = .ok (.if_icmp .le 9, 3) ∧ decode cX12_tray 26 = .ok (.aload_n 0, 1) ∧ decode cX12_tray 27 = .ok (.iconst 1, 1) ∧ decode cX12_tray 28 = .ok (.invokevirtual 100, 3) ∧ decode cX12_tray 31 = .ok (.ireturn, 1) ∧ decode cX12_tray 32 = .ok (.aload_n 0, 1) ∧ decode cX12_tray 33 = .ok (.getfield 21, 3) ∧ decode cX12_tray 36 = .ok (.iload_n 1, 1) := by decide +kernel
theorem e_X12_tray_2 : decode cX12_tray 37 = .ok (.iload_n 2, 1) ∧ decode cX12_tray 38 = .ok (.iastore, 1) ∧ decode cX12_tray 39 = .ok (.aload_n 0, 1) ∧ decode cX12_tray 40 = .ok (.getfield 24, 3) ∧ decode cX12_tray 43 = .ok (.iload_n 1, 1) ∧ decode cX12_tray 44 = .ok (.iload_n 3, 1) ∧ decode cX12_tray 45 = .ok (.iastore, 1) ∧ decode cX12_tray 46 = .ok (.iconst 0, 1) ∧ decode cX12_tray 47 = .ok (.istore 4, 2) ∧ decode cX12_tray 49 = .ok (.iload 4, 2) := by decide +kernel
theorem e_X12_tray_3 : decode cX12_tray 51 = .ok (.iload_n 3, 1) ∧ decode cX12_tray 52 = .ok (.if_icmp .ge 22, 3) ∧ decode cX12_tray 55 = .ok (.aload_n 0, 1) ∧ decode cX12_tray 56 = .ok (.getfield 27, 3) ∧ decode cX12_tray 59 = .ok (.bipush 60, 2) ∧ decode cX12_tray 61 = .ok (.iload_n 1, 1) ∧ decode cX12_tray 62 = .ok (.imul, 1) ∧ decode cX12_tray 63 = .ok (.iload 4, 2) ∧ decode cX12_tray 65 = .ok (.iadd, 1) ∧ decode cX12_tray 66 = .ok (.lconst 0, 1) := by decide +kernel
theorem e_X12_tray_4 : decode cX12_tray 67 = .ok (.lastore, 1) ∧ decode cX12_tray 68 = .ok (.iinc 4 1, 3) ∧ decode cX12_tray 71 = .ok (.goto (-22), 3) ∧ decode cX12_tray 74 = .ok (.aload_n 0, 1) ∧ decode cX12_tray 75 = .ok (.iconst 0, 1) ∧ decode cX12_tray 76 = .ok (.invokevirtual 100, 3) ∧ decode cX12_tray 79 = .ok (.ireturn, 1) := by decide +kernel
abbrev E_X12_tray_49 (G : Kg) (l1 l3 l4 : Int) (σ : Kmem) (Q : Int → Kmem → Prop) : Prop := Ex G WM M_X12_tray 1 0 0 49 [(0, vA G 0), (1, vI l1), (3, vI l3), (4, vI l4)] [] σ Q
theorem S_X12_tray {G : Kg} {σ : Kmem} {Q : Int → Kmem → Prop} {l1 l2 l3 : Int}  (h : (rI l1) ∧ ((¬ ((0 : Int) ≤ l1 ∧ (l1 : Int) < 4) → (rI (1)) ∧ Q (kb ((1 : Int) = 0)) (kup σ 0 2 (1))) ∧ (((0 : Int) ≤ l1 ∧ (l1 : Int) < 4) → (rI l2) ∧ ((l2 < 0 → (rI (1)) ∧ Q (kb ((1 : Int) = 0)) (kup σ 0 2 (1))) ∧ (0 ≤ l2 → ((3 < l2 → (rI (1)) ∧ Q (kb ((1 : Int) = 0)) (kup σ 0 2 (1))) ∧ (l2 ≤ 3 → (rI l3) ∧ ((l3 < 0 → (rI (1)) ∧ Q (kb ((1 : Int) = 0)) (kup σ 0 2 (1))) ∧ (0 ≤ l3 → ((l3 ≤ 60 → (0 ≤ l1 ∧ l1 < 4) ∧ (0 ≤ l1 ∧ l1 < 4) ∧ E_X12_tray_49 G l1 l3 0 (kup (kup σ 3 l1 l2) 4 l1 l3) Q) ∧ (60 < l3 → (rI (1)) ∧ Q (kb ((1 : Int) = 0)) (kup σ 0 2 (1))))))))))))) : Run G WM M_X12_tray 1 0 0 [vA G 0, vI l1, vI l2, vI l3] σ Q := by
  refine Run.of (by decide +kernel) (by show (4 : Nat) ≤ 5; decide) ?_
  show Ex G WM M_X12_tray 1 0 0 0 [(0, vA G 0), (1, vI l1), (2, vI l2), (3, vI l3)] [] σ Q
  refine R_iload_n e_X12_tray_0.1 1 rfl ?_
  obtain ⟨q3, h⟩ := h
  refine R_callS (mc := 0) (ms := 0) (mc' := 0) (ms' := 0) (M' := M_X12_isTray) (d' := 0) (as := [vI l1]) (st := []) 1 e_X12_tray_0.2.1 (kCSof m_X12_isTray l_X12_104) (by decide) (by decide) rfl rfl (by show (0 : Nat) ≤ 8; decide) ?_
  refine Run.mono (P_X12_isTray q3) (fun rr ss e => ?_)
  obtain ⟨e1, e2⟩ := e
  refine R_eqs (st2 := [vI (kb ((0 : Int) ≤ l1 ∧ (l1 : Int) < 4))]) (σ2 := σ) (by rw [e1]; rfl) e2 ?_
  refine R_if_eq 26 e_X12_tray_0.2.2.1 (by decide) (kb_r _) (fun q => ?_) (fun q => ?_)
  · replace h := h.1 (kb_f q)
    refine R_aload_n e_X12_tray_1.2.2.2.1 0 rfl ?_
    refine R_iconst e_X12_tray_1.2.2.2.2.1 ?_
    obtain ⟨q6, h⟩ := h
    refine R_callV (mc := 0) (ms := 0) (mc' := 0) (ms' := 0) (M' := M_X12_is) (d' := 0) (as := [vI 1]) (st := []) 12 1 e_X12_tray_1.2.2.2.2.2.1 (kCVof m_X12_is l_X12_100) rfl (by decide) km_0 (by decide) (by decide) rfl rfl (by show (0 : Nat) ≤ 8; decide) ?_
    refine Run.mono (P_X12_is q6) (fun rr ss e => ?_)
    obtain ⟨e1, e2⟩ := e
    refine R_eqs (st2 := [vI (kb ((1 : Int) = 0))]) (σ2 := (kup σ 0 2 (1))) (by rw [e1]; rfl) e2 ?_
    exact R_zreturn e_X12_tray_1.2.2.2.2.2.2.1 rfl (kb_01 _) h
  · replace h := h.2 (kb_t q)
    refine R_iload_n e_X12_tray_0.2.2.2.1 2 rfl ?_
    obtain ⟨q7, h⟩ := h
    refine R_if_lt 26 e_X12_tray_0.2.2.2.2.1 (by decide) q7  (fun q => ?_) (fun q => ?_)
    · replace h := h.1 q
      refine R_aload_n e_X12_tray_1.2.2.2.1 0 rfl ?_
      refine R_iconst e_X12_tray_1.2.2.2.2.1 ?_
      obtain ⟨q10, h⟩ := h
      refine R_callV (mc := 0) (ms := 0) (mc' := 0) (ms' := 0) (M' := M_X12_is) (d' := 0) (as := [vI 1]) (st := []) 12 1 e_X12_tray_1.2.2.2.2.2.1 (kCVof m_X12_is l_X12_100) rfl (by decide) km_0 (by decide) (by decide) rfl rfl (by show (0 : Nat) ≤ 8; decide) ?_
      refine Run.mono (P_X12_is q10) (fun rr ss e => ?_)
      obtain ⟨e1, e2⟩ := e
      refine R_eqs (st2 := [vI (kb ((1 : Int) = 0))]) (σ2 := (kup σ 0 2 (1))) (by rw [e1]; rfl) e2 ?_
      exact R_zreturn e_X12_tray_1.2.2.2.2.2.2.1 rfl (kb_01 _) h
    · replace h := h.2 q
      refine R_iload_n e_X12_tray_0.2.2.2.2.2.1 2 rfl ?_
      refine R_iconst e_X12_tray_0.2.2.2.2.2.2.1 ?_
      refine R_icmp_gt 26 e_X12_tray_0.2.2.2.2.2.2.2.1 (by decide) q7 (by decide) (fun q => ?_) (fun q => ?_)
      · replace h := h.1 q
        refine R_aload_n e_X12_tray_1.2.2.2.1 0 rfl ?_
        refine R_iconst e_X12_tray_1.2.2.2.2.1 ?_
        obtain ⟨q13, h⟩ := h
        refine R_callV (mc := 0) (ms := 0) (mc' := 0) (ms' := 0) (M' := M_X12_is) (d' := 0) (as := [vI 1]) (st := []) 12 1 e_X12_tray_1.2.2.2.2.2.1 (kCVof m_X12_is l_X12_100) rfl (by decide) km_0 (by decide) (by decide) rfl rfl (by show (0 : Nat) ≤ 8; decide) ?_
        refine Run.mono (P_X12_is q13) (fun rr ss e => ?_)
        obtain ⟨e1, e2⟩ := e
        refine R_eqs (st2 := [vI (kb ((1 : Int) = 0))]) (σ2 := (kup σ 0 2 (1))) (by rw [e1]; rfl) e2 ?_
        exact R_zreturn e_X12_tray_1.2.2.2.2.2.2.1 rfl (kb_01 _) h
      · replace h := h.2 q
        refine R_iload_n e_X12_tray_0.2.2.2.2.2.2.2.2.1 3 rfl ?_
        obtain ⟨q14, h⟩ := h
        refine R_if_lt 26 e_X12_tray_0.2.2.2.2.2.2.2.2.2 (by decide) q14  (fun q => ?_) (fun q => ?_)
        · replace h := h.1 q
          refine R_aload_n e_X12_tray_1.2.2.2.1 0 rfl ?_
          refine R_iconst e_X12_tray_1.2.2.2.2.1 ?_
          obtain ⟨q17, h⟩ := h
          refine R_callV (mc := 0) (ms := 0) (mc' := 0) (ms' := 0) (M' := M_X12_is) (d' := 0) (as := [vI 1]) (st := []) 12 1 e_X12_tray_1.2.2.2.2.2.1 (kCVof m_X12_is l_X12_100) rfl (by decide) km_0 (by decide) (by decide) rfl rfl (by show (0 : Nat) ≤ 8; decide) ?_
          refine Run.mono (P_X12_is q17) (fun rr ss e => ?_)
          obtain ⟨e1, e2⟩ := e
          refine R_eqs (st2 := [vI (kb ((1 : Int) = 0))]) (σ2 := (kup σ 0 2 (1))) (by rw [e1]; rfl) e2 ?_
          exact R_zreturn e_X12_tray_1.2.2.2.2.2.2.1 rfl (kb_01 _) h
        · replace h := h.2 q
          refine R_iload_n e_X12_tray_1.1 3 rfl ?_
          refine R_bipush e_X12_tray_1.2.1 (by decide) ?_
          refine R_icmp_le 32 e_X12_tray_1.2.2.1 (by decide) q14 (by decide) (fun q => ?_) (fun q => ?_)
          · replace h := h.1 q
            refine R_aload_n e_X12_tray_1.2.2.2.2.2.2.2.1 0 rfl ?_
            refine R_getA 12 5 3 e_X12_tray_1.2.2.2.2.2.2.2.2.1 f_X12_21 km_0 (fun _ _ => rfl) rm_0_5 (by decide) ?_
            refine R_iload_n e_X12_tray_1.2.2.2.2.2.2.2.2.2 1 rfl ?_
            refine R_iload_n e_X12_tray_2.1 2 rfl ?_
            obtain ⟨q18, h⟩ := h
            refine R_iast 4 WM_ok e_X12_tray_2.2.1 kma_3 q18 ?_
            refine R_aload_n e_X12_tray_2.2.2.1 0 rfl ?_
            refine R_getA 12 6 4 e_X12_tray_2.2.2.2.1 f_X12_24 km_0 (fun _ _ => rfl) rm_0_6 (by decide) ?_
            refine R_iload_n e_X12_tray_2.2.2.2.2.1 1 rfl ?_
            refine R_iload_n e_X12_tray_2.2.2.2.2.2.1 3 rfl ?_
            obtain ⟨q19, h⟩ := h
            refine R_iast 4 WM_ok e_X12_tray_2.2.2.2.2.2.2.1 kma_4 q19 ?_
            refine R_iconst e_X12_tray_2.2.2.2.2.2.2.2.1 ?_
            refine R_istore (ls2 := [(4, vI 0), (0, vA G 0), (1, vI l1), (2, vI l2), (3, vI l3)]) e_X12_tray_2.2.2.2.2.2.2.2.2.1 (by decide) rfl ?_
            refine R_ls (ls2 := [(0, vA G 0), (1, vI l1), (3, vI l3), (4, vI 0)]) [1, 2, 4, 0] rfl ?_
            exact h
          · replace h := h.2 q
            refine R_aload_n e_X12_tray_1.2.2.2.1 0 rfl ?_
            refine R_iconst e_X12_tray_1.2.2.2.2.1 ?_
            obtain ⟨q22, h⟩ := h
            refine R_callV (mc := 0) (ms := 0) (mc' := 0) (ms' := 0) (M' := M_X12_is) (d' := 0) (as := [vI 1]) (st := []) 12 1 e_X12_tray_1.2.2.2.2.2.1 (kCVof m_X12_is l_X12_100) rfl (by decide) km_0 (by decide) (by decide) rfl rfl (by show (0 : Nat) ≤ 8; decide) ?_
            refine Run.mono (P_X12_is q22) (fun rr ss e => ?_)
            obtain ⟨e1, e2⟩ := e
            refine R_eqs (st2 := [vI (kb ((1 : Int) = 0))]) (σ2 := (kup σ 0 2 (1))) (by rw [e1]; rfl) e2 ?_
            exact R_zreturn e_X12_tray_1.2.2.2.2.2.2.1 rfl (kb_01 _) h
theorem S_X12_tray_49 {G : Kg} {σ : Kmem} {Q : Int → Kmem → Prop} {l1 l2 l3 l4 : Int}  (h : (rI l4) ∧ (rI l3) ∧ ((l3 ≤ l4 → (rI (0)) ∧ Q (kb ((0 : Int) = 0)) (kup σ 0 2 (0))) ∧ (l4 < l3 → (0 ≤ (60 * l1) + l4 ∧ (60 * l1) + l4 < 240) ∧ E_X12_tray_49 G l1 l3 (l4 + 1) (kup σ 5 ((60 * l1) + l4) 0) Q))) : E_X12_tray_49 G l1 l3 l4 σ Q := by
  refine R_iload e_X12_tray_2.2.2.2.2.2.2.2.2.2 3 rfl ?_
  refine R_iload_n e_X12_tray_3.1 2 rfl ?_
  obtain ⟨q23, h⟩ := h
  obtain ⟨q24, h⟩ := h
  refine R_icmp_ge 74 e_X12_tray_3.2.1 (by decide) q23 q24 (fun q => ?_) (fun q => ?_)
  · replace h := h.1 q
    refine R_aload_n e_X12_tray_4.2.2.2.1 0 rfl ?_
    refine R_iconst e_X12_tray_4.2.2.2.2.1 ?_
    obtain ⟨q27, h⟩ := h
    refine R_callV (mc := 0) (ms := 0) (mc' := 0) (ms' := 0) (M' := M_X12_is) (d' := 0) (as := [vI 0]) (st := []) 12 1 e_X12_tray_4.2.2.2.2.2.1 (kCVof m_X12_is l_X12_100) rfl (by decide) km_0 (by decide) (by decide) rfl rfl (by show (0 : Nat) ≤ 8; decide) ?_
    refine Run.mono (P_X12_is q27) (fun rr ss e => ?_)
    obtain ⟨e1, e2⟩ := e
    refine R_eqs (st2 := [vI (kb ((0 : Int) = 0))]) (σ2 := (kup σ 0 2 (0))) (by rw [e1]; rfl) e2 ?_
    exact R_zreturn e_X12_tray_4.2.2.2.2.2.2 rfl (kb_01 _) h
  · replace h := h.2 q
    refine R_aload_n e_X12_tray_3.2.2.1 0 rfl ?_
    refine R_getA 12 7 5 e_X12_tray_3.2.2.2.1 f_X12_27 km_0 (fun _ _ => rfl) rm_0_7 (by decide) ?_
    refine R_bipush e_X12_tray_3.2.2.2.2.1 (by decide) ?_
    refine R_iload_n e_X12_tray_3.2.2.2.2.2.1 1 rfl ?_
    refine R_imul e_X12_tray_3.2.2.2.2.2.2.1 ?_
    refine R_iload e_X12_tray_3.2.2.2.2.2.2.2.1 3 rfl ?_
    refine R_iadd e_X12_tray_3.2.2.2.2.2.2.2.2.1 ?_
    refine R_lconst 0 e_X12_tray_3.2.2.2.2.2.2.2.2.2 (by decide) ?_
    obtain ⟨q28, h⟩ := h
    refine R_last 240 WM_ok e_X12_tray_4.1 kma_5 q28 ?_
    refine R_iinc (ls2 := [(4, vI (l4 + 1)), (0, vA G 0), (1, vI l1), (3, vI l3)]) e_X12_tray_4.2.1 3 rfl (by decide) rfl ?_
    refine R_goto 49 e_X12_tray_4.2.2.1 (by decide) ?_
    refine R_ls (ls2 := [(0, vA G 0), (1, vI l1), (3, vI l3), (4, vI (l4 + 1))]) [1, 2, 3, 0] rfl ?_
    exact h
/-! KiteLandModel.write(IIJ)Z -/
theorem e_X12_write_0 : decode cX12_write 0 = .ok (.aload_n 0, 1) ∧ decode cX12_write 1 = .ok (.iload_n 1, 1) ∧ decode cX12_write 2 = .ok (.iload_n 2, 1) ∧ decode cX12_write 3 = .ok (.invokevirtual 107, 3) ∧ decode cX12_write 6 = .ok (.istore 5, 2) ∧ decode cX12_write 8 = .ok (.iload 5, 2) ∧ decode cX12_write 10 = .ok (.ifCond .ne 24, 3) ∧ decode cX12_write 13 = .ok (.aload_n 0, 1) ∧ decode cX12_write 14 = .ok (.getfield 27, 3) ∧ decode cX12_write 17 = .ok (.bipush 60, 2) := by decide +kernel
theorem e_X12_write_1 : decode cX12_write 19 = .ok (.iload_n 1, 1) ∧ decode cX12_write 20 = .ok (.imul, 1) ∧ decode cX12_write 21 = .ok (.iload_n 2, 1) ∧ decode cX12_write 22 = .ok (.iadd, 1) ∧ decode cX12_write 23 = .ok (.lload_n 3, 1) ∧ decode cX12_write 24 = .ok (.aload_n 0, 1) ∧ decode cX12_write 25 = .ok (.getfield 21, 3) ∧ decode cX12_write 28 = .ok (.iload_n 1, 1) ∧ decode cX12_write 29 = .ok (.iaload, 1) ∧ decode cX12_write 30 = .ok (.invokestatic 111, 3) := by decide +kernel
theorem e_X12_write_2 : decode cX12_write 33 = .ok (.lastore, 1) ∧ decode cX12_write 34 = .ok (.aload_n 0, 1) ∧ decode cX12_write 35 = .ok (.iload 5, 2) ∧ decode cX12_write 37 = .ok (.invokevirtual 100, 3) ∧ decode cX12_write 40 = .ok (.ireturn, 1) := by decide +kernel
theorem S_X12_write {G : Kg} {σ : Kmem} {Q : Int → Kmem → Prop} {l1 l2 l3 : Int}  (h : ((∀ i, 0 ≤ i → i < 4 → tOk (σ 4 i)) ∧ rI (l1) ∧ rI (l2)) ∧ (rI (sWPl (σ 4) (l1) (l2))) ∧ ((sWPl (σ 4) (l1) (l2) ≠ 0 → (rI ((sWPl (σ 4) (l1) (l2)))) ∧ Q (kb (((sWPl (σ 4) (l1) (l2)) : Int) = 0)) (kup σ 0 2 ((sWPl (σ 4) (l1) (l2))))) ∧ (sWPl (σ 4) (l1) (l2) = 0 → (0 ≤ l1 ∧ l1 < 4) ∧ Run G WM M_X12_narrowed 0 0 0 [vL l3, vI (σ 3 l1)] σ (fun r9 s10 => (0 ≤ (60 * l1) + l2 ∧ (60 * l1) + l2 < 240) ∧ (rI ((sWPl (σ 4) (l1) (l2)))) ∧ Q (kb (((sWPl (σ 4) (l1) (l2)) : Int) = 0)) (kup (kup s10 5 ((60 * l1) + l2) r9) 0 2 ((sWPl (σ 4) (l1) (l2)))))))) : Run G WM M_X12_write 2 0 0 [vA G 0, vI l1, vI l2, vL l3] σ Q := by
  refine Run.of (by decide +kernel) (by show (5 : Nat) ≤ 6; decide) ?_
  show Ex G WM M_X12_write 2 0 0 0 [(0, vA G 0), (1, vI l1), (2, vI l2), (3, vL l3)] [] σ Q
  refine R_aload_n e_X12_write_0.1 0 rfl ?_
  refine R_iload_n e_X12_write_0.2.1 1 rfl ?_
  refine R_iload_n e_X12_write_0.2.2.1 2 rfl ?_
  obtain ⟨q3, h⟩ := h
  refine R_callV (mc := 0) (ms := 0) (mc' := 0) (ms' := 0) (M' := M_X12_wrongPlace) (d' := 1) (as := [vI l1, vI l2]) (st := []) 12 2 e_X12_write_0.2.2.2.1 (kCVof m_X12_wrongPlace l_X12_107) rfl (by decide) km_0 (by decide) (by decide) rfl rfl (by show (0 : Nat) ≤ 8; decide) ?_
  refine Run.mono (P_X12_wrongPlace q3) (fun rr ss e => ?_)
  obtain ⟨e1, e2⟩ := e
  refine R_eqs (st2 := [vI (sWPl (σ 4) (l1) (l2))]) (σ2 := σ) (by rw [e1]; rfl) e2 ?_
  refine R_istore (ls2 := [(5, vI (sWPl (σ 4) (l1) (l2))), (0, vA G 0), (1, vI l1), (2, vI l2), (3, vL l3)]) e_X12_write_0.2.2.2.2.1 (by decide) rfl ?_
  refine R_iload e_X12_write_0.2.2.2.2.2.1 0 rfl ?_
  obtain ⟨q4, h⟩ := h
  refine R_if_ne 34 e_X12_write_0.2.2.2.2.2.2.1 (by decide) q4  (fun q => ?_) (fun q => ?_)
  · replace h := h.1 q
    refine R_aload_n e_X12_write_2.2.1 1 rfl ?_
    refine R_iload e_X12_write_2.2.2.1 0 rfl ?_
    obtain ⟨q7, h⟩ := h
    refine R_callV (mc := 0) (ms := 0) (mc' := 0) (ms' := 0) (M' := M_X12_is) (d' := 0) (as := [vI (sWPl (σ 4) (l1) (l2))]) (st := []) 12 1 e_X12_write_2.2.2.2.1 (kCVof m_X12_is l_X12_100) rfl (by decide) km_0 (by decide) (by decide) rfl rfl (by show (0 : Nat) ≤ 8; decide) ?_
    refine Run.mono (P_X12_is q7) (fun rr ss e => ?_)
    obtain ⟨e1, e2⟩ := e
    refine R_eqs (st2 := [vI (kb (((sWPl (σ 4) (l1) (l2)) : Int) = 0))]) (σ2 := (kup σ 0 2 ((sWPl (σ 4) (l1) (l2))))) (by rw [e1]; rfl) e2 ?_
    exact R_zreturn e_X12_write_2.2.2.2.2 rfl (kb_01 _) h
  · replace h := h.2 q
    refine R_aload_n e_X12_write_0.2.2.2.2.2.2.2.1 1 rfl ?_
    refine R_getA 12 7 5 e_X12_write_0.2.2.2.2.2.2.2.2.1 f_X12_27 km_0 (fun _ _ => rfl) rm_0_7 (by decide) ?_
    refine R_bipush e_X12_write_0.2.2.2.2.2.2.2.2.2 (by decide) ?_
    refine R_iload_n e_X12_write_1.1 2 rfl ?_
    refine R_imul e_X12_write_1.2.1 ?_
    refine R_iload_n e_X12_write_1.2.2.1 3 rfl ?_
    refine R_iadd e_X12_write_1.2.2.2.1 ?_
    refine R_lload_n e_X12_write_1.2.2.2.2.1 4 rfl ?_
    refine R_aload_n e_X12_write_1.2.2.2.2.2.1 1 rfl ?_
    refine R_getA 12 5 3 e_X12_write_1.2.2.2.2.2.2.1 f_X12_21 km_0 (fun _ _ => rfl) rm_0_5 (by decide) ?_
    refine R_iload_n e_X12_write_1.2.2.2.2.2.2.2.1 2 rfl ?_
    obtain ⟨q8, h⟩ := h
    refine R_iald 4 e_X12_write_1.2.2.2.2.2.2.2.2.1 kma_3 q8 ?_
    refine R_callS (mc := 0) (ms := 0) (mc' := 0) (ms' := 0) (M' := M_X12_narrowed) (d' := 0) (as := [vL l3, vI (σ 3 l1)]) (st := [vI ((60 * l1) + l2), vA G 5]) 2 e_X12_write_1.2.2.2.2.2.2.2.2.2 (kCSof m_X12_narrowed l_X12_111) (by decide) (by decide) rfl rfl (by show (2 : Nat) ≤ 8; decide) ?_
    refine Run.mono h (fun r9 s10 h => ?_)
    refine R_eqs (st2 := [vL r9, vI ((60 * l1) + l2), vA G 5]) rfl rfl ?_
    obtain ⟨q11, h⟩ := h
    refine R_last 240 WM_ok e_X12_write_2.1 kma_5 q11 ?_
    refine R_aload_n e_X12_write_2.2.1 1 rfl ?_
    refine R_iload e_X12_write_2.2.2.1 0 rfl ?_
    obtain ⟨q14, h⟩ := h
    refine R_callV (mc := 0) (ms := 0) (mc' := 0) (ms' := 0) (M' := M_X12_is) (d' := 0) (as := [vI (sWPl (σ 4) (l1) (l2))]) (st := []) 12 1 e_X12_write_2.2.2.2.1 (kCVof m_X12_is l_X12_100) rfl (by decide) km_0 (by decide) (by decide) rfl rfl (by show (0 : Nat) ≤ 8; decide) ?_
    refine Run.mono (P_X12_is q14) (fun rr ss e => ?_)
    obtain ⟨e1, e2⟩ := e
    refine R_eqs (st2 := [vI (kb (((sWPl (σ 4) (l1) (l2)) : Int) = 0))]) (σ2 := (kup (kup s10 5 ((60 * l1) + l2) r9) 0 2 ((sWPl (σ 4) (l1) (l2))))) (by rw [e1]; rfl) e2 ?_
    exact R_zreturn e_X12_write_2.2.2.2.2 rfl (kb_01 _) h
/-! KiteLandModel.read(II)J -/
theorem e_X12_read_0 : decode cX12_read 0 = .ok (.aload_n 0, 1) ∧ decode cX12_read 1 = .ok (.aload_n 0, 1) ∧ decode cX12_read 2 = .ok (.iload_n 1, 1) ∧ decode cX12_read 3 = .ok (.iload_n 2, 1) ∧ decode cX12_read 4 = .ok (.invokevirtual 107, 3) ∧ decode cX12_read 7 = .ok (.putfield 87, 3) ∧ decode cX12_read 10 = .ok (.aload_n 0, 1) ∧ decode cX12_read 11 = .ok (.getfield 87, 3) ∧ decode cX12_read 14 = .ok (.ifCond .le 9, 3) ∧ decode cX12_read 17 = .ok (.ldc2_w 115, 3) := by decide +kernel
theorem e_X12_read_1 : decode cX12_read 20 = .ok (.goto 14, 3) ∧ decode cX12_read 23 = .ok (.aload_n 0, 1) ∧ decode cX12_read 24 = .ok (.getfield 27, 3) ∧ decode cX12_read 27 = .ok (.bipush 60, 2) ∧ decode cX12_read 29 = .ok (.iload_n 1, 1) ∧ decode cX12_read 30 = .ok (.imul, 1) ∧ decode cX12_read 31 = .ok (.iload_n 2, 1) ∧ decode cX12_read 32 = .ok (.iadd, 1) ∧ decode cX12_read 33 = .ok (.laload, 1) ∧ decode cX12_read 34 = .ok (.lreturn, 1) := by decide +kernel
theorem S_X12_read {G : Kg} {σ : Kmem} {Q : Int → Kmem → Prop} {l1 l2 : Int}  (h : ((∀ i, 0 ≤ i → i < 4 → tOk (σ 4 i)) ∧ rI (l1) ∧ rI (l2)) ∧ (rI ((kup σ 0 2 (sWPl (σ 4) (l1) (l2))) 0 2)) ∧ (((kup σ 0 2 (sWPl (σ 4) (l1) (l2))) 0 2 ≤ 0 → (0 ≤ (60 * l1) + l2 ∧ (60 * l1) + l2 < 240) ∧ Q ((kup σ 0 2 (sWPl (σ 4) (l1) (l2))) 5 ((60 * l1) + l2)) (kup σ 0 2 (sWPl (σ 4) (l1) (l2)))) ∧ (0 < (kup σ 0 2 (sWPl (σ 4) (l1) (l2))) 0 2 → Q (-1) (kup σ 0 2 (sWPl (σ 4) (l1) (l2)))))) : Run G WM M_X12_read 2 0 0 [vA G 0, vI l1, vI l2] σ Q := by
  refine Run.of (by decide +kernel) (by show (3 : Nat) ≤ 3; decide) ?_
  show Ex G WM M_X12_read 2 0 0 0 [(0, vA G 0), (1, vI l1), (2, vI l2)] [] σ Q
  refine R_aload_n e_X12_read_0.1 0 rfl ?_
  refine R_aload_n e_X12_read_0.2.1 0 rfl ?_
  refine R_iload_n e_X12_read_0.2.2.1 1 rfl ?_
  refine R_iload_n e_X12_read_0.2.2.2.1 2 rfl ?_
  obtain ⟨q3, h⟩ := h
  refine R_callV (mc := 0) (ms := 0) (mc' := 0) (ms' := 0) (M' := M_X12_wrongPlace) (d' := 1) (as := [vI l1, vI l2]) (st := [vA G 0]) 12 2 e_X12_read_0.2.2.2.2.1 (kCVof m_X12_wrongPlace l_X12_107) rfl (by decide) km_0 (by decide) (by decide) rfl rfl (by show (1 : Nat) ≤ 8; decide) ?_
  refine Run.mono (P_X12_wrongPlace q3) (fun rr ss e => ?_)
  obtain ⟨e1, e2⟩ := e
  refine R_eqs (st2 := [vI (sWPl (σ 4) (l1) (l2)), vA G 0]) (σ2 := σ) (by rw [e1]; rfl) e2 ?_
  refine R_putI 12 2 2 WM_ok e_X12_read_0.2.2.2.2.2.1 f_X12_87 km_0 rfl rfl rfl ?_
  refine R_aload_n e_X12_read_0.2.2.2.2.2.2.1 0 rfl ?_
  refine R_getI 12 2 2 e_X12_read_0.2.2.2.2.2.2.2.1 f_X12_87 km_0 (fun _ _ => rfl) rfl ?_
  obtain ⟨q4, h⟩ := h
  refine R_if_le 23 e_X12_read_0.2.2.2.2.2.2.2.2.1 (by decide) q4  (fun q => ?_) (fun q => ?_)
  · replace h := h.1 q
    refine R_aload_n e_X12_read_1.2.1 0 rfl ?_
    refine R_getA 12 7 5 e_X12_read_1.2.2.1 f_X12_27 km_0 (fun _ _ => rfl) rm_0_7 (by decide) ?_
    refine R_bipush e_X12_read_1.2.2.2.1 (by decide) ?_
    refine R_iload_n e_X12_read_1.2.2.2.2.1 1 rfl ?_
    refine R_imul e_X12_read_1.2.2.2.2.2.1 ?_
    refine R_iload_n e_X12_read_1.2.2.2.2.2.2.1 2 rfl ?_
    refine R_iadd e_X12_read_1.2.2.2.2.2.2.2.1 ?_
    obtain ⟨q5, h⟩ := h
    refine R_lald 240 e_X12_read_1.2.2.2.2.2.2.2.2.1 kma_5 q5 ?_
    exact R_lreturn e_X12_read_1.2.2.2.2.2.2.2.2.2 rfl h
  · replace h := h.2 q
    refine R_ldc2 (-1) k_X12_115 e_X12_read_0.2.2.2.2.2.2.2.2.2 ?_
    refine R_goto 34 e_X12_read_1.1 (by decide) ?_
    exact R_lreturn e_X12_read_1.2.2.2.2.2.2.2.2.2 rfl h
/-! KiteLandModel.pour(IIIII)Z -/
theorem e_X12_pour_0 : decode cX12_pour 0 = .ok (.iload_n 1, 1) ∧ decode cX12_pour 1 = .ok (.invokestatic 104, 3) ∧ decode cX12_pour 4 = .ok (.ifCond .eq 24, 3) ∧ decode cX12_pour 7 = .ok (.iload_n 3, 1) ∧ decode cX12_pour 8 = .ok (.invokestatic 104, 3) ∧ decode cX12_pour 11 = .ok (.ifCond .eq 17, 3) ∧ decode cX12_pour 14 = .ok (.iload_n 2, 1) ∧ decode cX12_pour 15 = .ok (.ifCond .lt 13, 3) ∧ decode cX12_pour 18 = .ok (.iload 4, 2) ∧ decode cX12_pour 20 = .ok (.ifCond .lt 8, 3) := by decide +kernel
theorem e_X12_pour_1 : decode cX12_pour 23 = .ok (.iload 5, 2) ∧ decode cX12_pour 25 = .ok (.ifCond .ge 9, 3) ∧ decode cX12_pour 28 = .ok (.aload_n 0, 1) ∧ decode cX12_pour 29 = .ok (.iconst 1, 1) ∧ decode cX12_pour 30 = .ok (.invokevirtual 100, 3) ∧ decode cX12_pour 33 = .ok (.ireturn, 1) ∧ decode cX12_pour 34 = .ok (.aload_n 0, 1) ∧ decode cX12_pour 35 = .ok (.getfield 24, 3) ∧ decode cX12_pour 38 = .ok (.iload_n 1, 1) ∧ decode cX12_pour 39 = .ok (.iaload, 1) := by decide +kernel
theorem e_X12_pour_2 : decode cX12_pour 40 = .ok (.iconst (-1), 1) ∧ decode cX12_pour 41 = .ok (.if_icmp .eq 13, 3) ∧ decode cX12_pour 44 = .ok (.aload_n 0, 1) ∧ decode cX12_pour 45 = .ok (.getfield 24, 3) ∧ decode cX12_pour 48 = .ok (.iload_n 3, 1) ∧ decode cX12_pour 49 = .ok (.iaload, 1) ∧ decode cX12_pour 50 = .ok (.iconst (-1), 1) ∧ decode cX12_pour 51 = .ok (.if_icmp .ne 9, 3) ∧ decode cX12_pour 54 = .ok (.aload_n 0, 1) ∧ decode cX12_pour 55 = .ok (.iconst 2, 1) := by decide +kernel
theorem e_X12_pour_3 : decode cX12_pour 56 = .ok (.invokevirtual 100, 3) ∧ decode cX12_pour 59 = .ok (.ireturn, 1) ∧ decode cX12_pour 60 = .ok (.aload_n 0, 1) ∧ decode cX12_pour 61 = .ok (.getfield 21, 3) ∧ decode cX12_pour 64 = .ok (.iload_n 1, 1) ∧ decode cX12_pour 65 = .ok (.iaload, 1) ∧ decode cX12_pour 66 = .ok (.aload_n 0, 1) ∧ decode cX12_pour 67 = .ok (.getfield 21, 3) ∧ decode cX12_pour 70 = .ok (.iload_n 3, 1) ∧ decode cX12_pour 71 = .ok (.iaload, 1) := by decide +kernel
theorem e_X12_pour_4 : decode cX12_pour 72 = .ok (.if_icmp .eq 10, 3) ∧ decode cX12_pour 75 = .ok (.aload_n 0, 1) ∧ decode cX12_pour 76 = .ok (.bipush 8, 2) ∧ decode cX12_pour 78 = .ok (.invokevirtual 100, 3) ∧ decode cX12_pour 81 = .ok (.ireturn, 1) ∧ decode cX12_pour 82 = .ok (.iload 5, 2) ∧ decode cX12_pour 84 = .ok (.aload_n 0, 1) ∧ decode cX12_pour 85 = .ok (.getfield 24, 3) ∧ decode cX12_pour 88 = .ok (.iload_n 1, 1) ∧ decode cX12_pour 89 = .ok (.iaload, 1) := by decide +kernel
theorem e_X12_pour_5 : decode cX12_pour 90 = .ok (.iload_n 2, 1) ∧ decode cX12_pour 91 = .ok (.isub, 1) ∧ decode cX12_pour 92 = .ok (.if_icmp .gt 17, 3) ∧ decode cX12_pour 95 = .ok (.iload 5, 2) ∧ decode cX12_pour 97 = .ok (.aload_n 0, 1) ∧ decode cX12_pour 98 = .ok (.getfield 24, 3) ∧ decode cX12_pour 101 = .ok (.iload_n 3, 1) ∧ decode cX12_pour 102 = .ok (.iaload, 1) ∧ decode cX12_pour 103 = .ok (.iload 4, 2) ∧ decode cX12_pour 105 = .ok (.isub, 1) := by decide +kernel
theorem e_X12_pour_6 : decode cX12_pour 106 = .ok (.if_icmp .le 9, 3) ∧ decode cX12_pour 109 = .ok (.aload_n 0, 1) ∧ decode cX12_pour 110 = .ok (.iconst 3, 1) ∧ decode cX12_pour 111 = .ok (.invokevirtual 100, 3) ∧ decode cX12_pour 114 = .ok (.ireturn, 1) ∧ decode cX12_pour 115 = .ok (.iconst 0, 1) ∧ decode cX12_pour 116 = .ok (.istore 6, 2) ∧ decode cX12_pour 118 = .ok (.iload 6, 2) ∧ decode cX12_pour 120 = .ok (.iload 5, 2) ∧ decode cX12_pour 122 = .ok (.if_icmp .ge 58, 3) := by decide +kernel
theorem e_X12_pour_7 : decode cX12_pour 125 = .ok (.iload_n 2, 1) ∧ decode cX12_pour 126 = .ok (.iload 4, 2) ∧ decode cX12_pour 128 = .ok (.if_icmp .ge 13, 3) ∧ decode cX12_pour 131 = .ok (.iload 5, 2) ∧ decode cX12_pour 133 = .ok (.iconst 1, 1) ∧ decode cX12_pour 134 = .ok (.isub, 1) ∧ decode cX12_pour 135 = .ok (.iload 6, 2) ∧ decode cX12_pour 137 = .ok (.isub, 1) ∧ decode cX12_pour 138 = .ok (.goto 5, 3) ∧ decode cX12_pour 141 = .ok (.iload 6, 2) := by decide +kernel
theorem e_X12_pour_8 : decode cX12_pour 143 = .ok (.istore 7, 2) ∧ decode cX12_pour 145 = .ok (.aload_n 0, 1) ∧ decode cX12_pour 146 = .ok (.getfield 27, 3) ∧ decode cX12_pour 149 = .ok (.bipush 60, 2) ∧ decode cX12_pour 151 = .ok (.iload_n 3, 1) ∧ decode cX12_pour 152 = .ok (.imul, 1) ∧ decode cX12_pour 153 = .ok (.iload 4, 2) ∧ decode cX12_pour 155 = .ok (.iadd, 1) ∧ decode cX12_pour 156 = .ok (.iload 7, 2) ∧ decode cX12_pour 158 = .ok (.iadd, 1) := by decide +kernel
theorem e_X12_pour_9 : decode cX12_pour 159 = .ok (.aload_n 0, 1) ∧ decode cX12_pour 160 = .ok (.getfield 27, 3) ∧ decode cX12_pour 163 = .ok (.bipush 60, 2) ∧ decode cX12_pour 165 = .ok (.iload_n 1, 1) ∧ decode cX12_pour 166 = .ok (.imul, 1) ∧ decode cX12_pour 167 = .ok (.iload_n 2, 1) ∧ decode cX12_pour 168 = .ok (.iadd, 1) ∧ decode cX12_pour 169 = .ok (.iload 7, 2) ∧ decode cX12_pour 171 = .ok (.iadd, 1) ∧ decode cX12_pour 172 = .ok (.laload, 1) := by decide +kernel
theorem e_X12_pour_10 : decode cX12_pour 173 = .ok (.lastore, 1) ∧ decode cX12_pour 174 = .ok (.iinc 6 1, 3) ∧ decode cX12_pour 177 = .ok (.goto (-59), 3) ∧ decode cX12_pour 180 = .ok (.aload_n 0, 1) ∧ decode cX12_pour 181 = .ok (.iconst 0, 1) ∧ decode cX12_pour 182 = .ok (.invokevirtual 100, 3) ∧ decode cX12_pour 185 = .ok (.ireturn, 1) := by decide +kernel
abbrev E_X12_pour_118 (G : Kg) (l1 l2 l3 l4 l5 l6 : Int) (σ : Kmem) (Q : Int → Kmem → Prop) : Prop := Ex G WM M_X12_pour 1 0 0 118 [(0, vA G 0), (1, vI l1), (2, vI l2), (3, vI l3), (4, vI l4), (5, vI l5), (6, vI l6)] [] σ Q
theorem S_X12_pour {G : Kg} {σ : Kmem} {Q : Int → Kmem → Prop} {l1 l2 l3 l4 l5 : Int}  (h : (rI l1) ∧ ((¬ ((0 : Int) ≤ l1 ∧ (l1 : Int) < 4) → (rI (1)) ∧ Q (kb ((1 : Int) = 0)) (kup σ 0 2 (1))) ∧ (((0 : Int) ≤ l1 ∧ (l1 : Int) < 4) → (rI l3) ∧ ((¬ ((0 : Int) ≤ l3 ∧ (l3 : Int) < 4) → (rI (1)) ∧ Q (kb ((1 : Int) = 0)) (kup σ 0 2 (1))) ∧ (((0 : Int) ≤ l3 ∧ (l3 : Int) < 4) → (rI l2) ∧ ((l2 < 0 → (rI (1)) ∧ Q (kb ((1 : Int) = 0)) (kup σ 0 2 (1))) ∧ (0 ≤ l2 → (rI l4) ∧ ((l4 < 0 → (rI (1)) ∧ Q (kb ((1 : Int) = 0)) (kup σ 0 2 (1))) ∧ (0 ≤ l4 → (rI l5) ∧ ((0 ≤ l5 → (0 ≤ l1 ∧ l1 < 4) ∧ (rI (σ 4 l1)) ∧ ((σ 4 l1 = -1 → (rI (2)) ∧ Q (kb ((2 : Int) = 0)) (kup σ 0 2 (2))) ∧ (σ 4 l1 ≠ -1 → (0 ≤ l3 ∧ l3 < 4) ∧ (rI (σ 4 l3)) ∧ ((σ 4 l3 ≠ -1 → (0 ≤ l1 ∧ l1 < 4) ∧ (0 ≤ l3 ∧ l3 < 4) ∧ (rI (σ 3 l1)) ∧ (rI (σ 3 l3)) ∧ ((σ 3 l1 = σ 3 l3 → (0 ≤ l1 ∧ l1 < 4) ∧ (rI ((σ 4 l1) - l2)) ∧ (((σ 4 l1) - l2 < l5 → (rI (3)) ∧ Q (kb ((3 : Int) = 0)) (kup σ 0 2 (3))) ∧ (l5 ≤ (σ 4 l1) - l2 → (0 ≤ l3 ∧ l3 < 4) ∧ (rI ((σ 4 l3) - l4)) ∧ ((l5 ≤ (σ 4 l3) - l4 → E_X12_pour_118 G l1 l2 l3 l4 l5 0 σ Q) ∧ ((σ 4 l3) - l4 < l5 → (rI (3)) ∧ Q (kb ((3 : Int) = 0)) (kup σ 0 2 (3))))))) ∧ (σ 3 l1 ≠ σ 3 l3 → (rI (8)) ∧ Q (kb ((8 : Int) = 0)) (kup σ 0 2 (8))))) ∧ (σ 4 l3 = -1 → (rI (2)) ∧ Q (kb ((2 : Int) = 0)) (kup σ 0 2 (2))))))) ∧ (l5 < 0 → (rI (1)) ∧ Q (kb ((1 : Int) = 0)) (kup σ 0 2 (1))))))))))))) : Run G WM M_X12_pour 1 0 0 [vA G 0, vI l1, vI l2, vI l3, vI l4, vI l5] σ Q := by
  refine Run.of (by decide +kernel) (by show (6 : Nat) ≤ 8; decide) ?_
  show Ex G WM M_X12_pour 1 0 0 0 [(0, vA G 0), (1, vI l1), (2, vI l2), (3, vI l3), (4, vI l4), (5, vI l5)] [] σ Q
  refine R_iload_n e_X12_pour_0.1 1 rfl ?_
  obtain ⟨q3, h⟩ := h
  refine R_callS (mc := 0) (ms := 0) (mc' := 0) (ms' := 0) (M' := M_X12_isTray) (d' := 0) (as := [vI l1]) (st := []) 1 e_X12_pour_0.2.1 (kCSof m_X12_isTray l_X12_104) (by decide) (by decide) rfl rfl (by show (0 : Nat) ≤ 8; decide) ?_
  refine Run.mono (P_X12_isTray q3) (fun rr ss e => ?_)
  obtain ⟨e1, e2⟩ := e
  refine R_eqs (st2 := [vI (kb ((0 : Int) ≤ l1 ∧ (l1 : Int) < 4))]) (σ2 := σ) (by rw [e1]; rfl) e2 ?_
  refine R_if_eq 28 e_X12_pour_0.2.2.1 (by decide) (kb_r _) (fun q => ?_) (fun q => ?_)
  · replace h := h.1 (kb_f q)
    refine R_aload_n e_X12_pour_1.2.2.1 0 rfl ?_
    refine R_iconst e_X12_pour_1.2.2.2.1 ?_
    obtain ⟨q6, h⟩ := h
    refine R_callV (mc := 0) (ms := 0) (mc' := 0) (ms' := 0) (M' := M_X12_is) (d' := 0) (as := [vI 1]) (st := []) 12 1 e_X12_pour_1.2.2.2.2.1 (kCVof m_X12_is l_X12_100) rfl (by decide) km_0 (by decide) (by decide) rfl rfl (by show (0 : Nat) ≤ 8; decide) ?_
    refine Run.mono (P_X12_is q6) (fun rr ss e => ?_)
    obtain ⟨e1, e2⟩ := e
    refine R_eqs (st2 := [vI (kb ((1 : Int) = 0))]) (σ2 := (kup σ 0 2 (1))) (by rw [e1]; rfl) e2 ?_
    exact R_zreturn e_X12_pour_1.2.2.2.2.2.1 rfl (kb_01 _) h
  · replace h := h.2 (kb_t q)
    refine R_iload_n e_X12_pour_0.2.2.2.1 3 rfl ?_
    obtain ⟨q9, h⟩ := h
    refine R_callS (mc := 0) (ms := 0) (mc' := 0) (ms' := 0) (M' := M_X12_isTray) (d' := 0) (as := [vI l3]) (st := []) 1 e_X12_pour_0.2.2.2.2.1 (kCSof m_X12_isTray l_X12_104) (by decide) (by decide) rfl rfl (by show (0 : Nat) ≤ 8; decide) ?_
    refine Run.mono (P_X12_isTray q9) (fun rr ss e => ?_)
    obtain ⟨e1, e2⟩ := e
    refine R_eqs (st2 := [vI (kb ((0 : Int) ≤ l3 ∧ (l3 : Int) < 4))]) (σ2 := σ) (by rw [e1]; rfl) e2 ?_
    refine R_if_eq 28 e_X12_pour_0.2.2.2.2.2.1 (by decide) (kb_r _) (fun q => ?_) (fun q => ?_)
    · replace h := h.1 (kb_f q)
      refine R_aload_n e_X12_pour_1.2.2.1 0 rfl ?_
      refine R_iconst e_X12_pour_1.2.2.2.1 ?_
      obtain ⟨q12, h⟩ := h
      refine R_callV (mc := 0) (ms := 0) (mc' := 0) (ms' := 0) (M' := M_X12_is) (d' := 0) (as := [vI 1]) (st := []) 12 1 e_X12_pour_1.2.2.2.2.1 (kCVof m_X12_is l_X12_100) rfl (by decide) km_0 (by decide) (by decide) rfl rfl (by show (0 : Nat) ≤ 8; decide) ?_
      refine Run.mono (P_X12_is q12) (fun rr ss e => ?_)
      obtain ⟨e1, e2⟩ := e
      refine R_eqs (st2 := [vI (kb ((1 : Int) = 0))]) (σ2 := (kup σ 0 2 (1))) (by rw [e1]; rfl) e2 ?_
      exact R_zreturn e_X12_pour_1.2.2.2.2.2.1 rfl (kb_01 _) h
    · replace h := h.2 (kb_t q)
      refine R_iload_n e_X12_pour_0.2.2.2.2.2.2.1 2 rfl ?_
      obtain ⟨q13, h⟩ := h
      refine R_if_lt 28 e_X12_pour_0.2.2.2.2.2.2.2.1 (by decide) q13  (fun q => ?_) (fun q => ?_)
      · replace h := h.1 q
        refine R_aload_n e_X12_pour_1.2.2.1 0 rfl ?_
        refine R_iconst e_X12_pour_1.2.2.2.1 ?_
        obtain ⟨q16, h⟩ := h
        refine R_callV (mc := 0) (ms := 0) (mc' := 0) (ms' := 0) (M' := M_X12_is) (d' := 0) (as := [vI 1]) (st := []) 12 1 e_X12_pour_1.2.2.2.2.1 (kCVof m_X12_is l_X12_100) rfl (by decide) km_0 (by decide) (by decide) rfl rfl (by show (0 : Nat) ≤ 8; decide) ?_
        refine Run.mono (P_X12_is q16) (fun rr ss e => ?_)
        obtain ⟨e1, e2⟩ := e
        refine R_eqs (st2 := [vI (kb ((1 : Int) = 0))]) (σ2 := (kup σ 0 2 (1))) (by rw [e1]; rfl) e2 ?_
        exact R_zreturn e_X12_pour_1.2.2.2.2.2.1 rfl (kb_01 _) h
      · replace h := h.2 q
        refine R_iload e_X12_pour_0.2.2.2.2.2.2.2.2.1 4 rfl ?_
        obtain ⟨q17, h⟩ := h
        refine R_if_lt 28 e_X12_pour_0.2.2.2.2.2.2.2.2.2 (by decide) q17  (fun q => ?_) (fun q => ?_)
        · replace h := h.1 q
          refine R_aload_n e_X12_pour_1.2.2.1 0 rfl ?_
          refine R_iconst e_X12_pour_1.2.2.2.1 ?_
          obtain ⟨q20, h⟩ := h
          refine R_callV (mc := 0) (ms := 0) (mc' := 0) (ms' := 0) (M' := M_X12_is) (d' := 0) (as := [vI 1]) (st := []) 12 1 e_X12_pour_1.2.2.2.2.1 (kCVof m_X12_is l_X12_100) rfl (by decide) km_0 (by decide) (by decide) rfl rfl (by show (0 : Nat) ≤ 8; decide) ?_
          refine Run.mono (P_X12_is q20) (fun rr ss e => ?_)
          obtain ⟨e1, e2⟩ := e
          refine R_eqs (st2 := [vI (kb ((1 : Int) = 0))]) (σ2 := (kup σ 0 2 (1))) (by rw [e1]; rfl) e2 ?_
          exact R_zreturn e_X12_pour_1.2.2.2.2.2.1 rfl (kb_01 _) h
        · replace h := h.2 q
          refine R_iload e_X12_pour_1.1 5 rfl ?_
          obtain ⟨q21, h⟩ := h
          refine R_if_ge 34 e_X12_pour_1.2.1 (by decide) q21  (fun q => ?_) (fun q => ?_)
          · replace h := h.1 q
            refine R_aload_n e_X12_pour_1.2.2.2.2.2.2.1 0 rfl ?_
            refine R_getA 12 6 4 e_X12_pour_1.2.2.2.2.2.2.2.1 f_X12_24 km_0 (fun _ _ => rfl) rm_0_6 (by decide) ?_
            refine R_iload_n e_X12_pour_1.2.2.2.2.2.2.2.2.1 1 rfl ?_
            obtain ⟨q22, h⟩ := h
            refine R_iald 4 e_X12_pour_1.2.2.2.2.2.2.2.2.2 kma_4 q22 ?_
            refine R_iconst e_X12_pour_2.1 ?_
            obtain ⟨q23, h⟩ := h
            refine R_icmp_eq 54 e_X12_pour_2.2.1 (by decide) q23 (by decide) (fun q => ?_) (fun q => ?_)
            · replace h := h.1 q
              refine R_aload_n e_X12_pour_2.2.2.2.2.2.2.2.2.1 0 rfl ?_
              refine R_iconst e_X12_pour_2.2.2.2.2.2.2.2.2.2 ?_
              obtain ⟨q26, h⟩ := h
              refine R_callV (mc := 0) (ms := 0) (mc' := 0) (ms' := 0) (M' := M_X12_is) (d' := 0) (as := [vI 2]) (st := []) 12 1 e_X12_pour_3.1 (kCVof m_X12_is l_X12_100) rfl (by decide) km_0 (by decide) (by decide) rfl rfl (by show (0 : Nat) ≤ 8; decide) ?_
              refine Run.mono (P_X12_is q26) (fun rr ss e => ?_)
              obtain ⟨e1, e2⟩ := e
              refine R_eqs (st2 := [vI (kb ((2 : Int) = 0))]) (σ2 := (kup σ 0 2 (2))) (by rw [e1]; rfl) e2 ?_
              exact R_zreturn e_X12_pour_3.2.1 rfl (kb_01 _) h
            · replace h := h.2 q
              refine R_aload_n e_X12_pour_2.2.2.1 0 rfl ?_
              refine R_getA 12 6 4 e_X12_pour_2.2.2.2.1 f_X12_24 km_0 (fun _ _ => rfl) rm_0_6 (by decide) ?_
              refine R_iload_n e_X12_pour_2.2.2.2.2.1 3 rfl ?_
              obtain ⟨q27, h⟩ := h
              refine R_iald 4 e_X12_pour_2.2.2.2.2.2.1 kma_4 q27 ?_
              refine R_iconst e_X12_pour_2.2.2.2.2.2.2.1 ?_
              obtain ⟨q28, h⟩ := h
              refine R_icmp_ne 60 e_X12_pour_2.2.2.2.2.2.2.2.1 (by decide) q28 (by decide) (fun q => ?_) (fun q => ?_)
              · replace h := h.1 q
                refine R_aload_n e_X12_pour_3.2.2.1 0 rfl ?_
                refine R_getA 12 5 3 e_X12_pour_3.2.2.2.1 f_X12_21 km_0 (fun _ _ => rfl) rm_0_5 (by decide) ?_
                refine R_iload_n e_X12_pour_3.2.2.2.2.1 1 rfl ?_
                obtain ⟨q29, h⟩ := h
                refine R_iald 4 e_X12_pour_3.2.2.2.2.2.1 kma_3 q29 ?_
                refine R_aload_n e_X12_pour_3.2.2.2.2.2.2.1 0 rfl ?_
                refine R_getA 12 5 3 e_X12_pour_3.2.2.2.2.2.2.2.1 f_X12_21 km_0 (fun _ _ => rfl) rm_0_5 (by decide) ?_
                refine R_iload_n e_X12_pour_3.2.2.2.2.2.2.2.2.1 3 rfl ?_
                obtain ⟨q30, h⟩ := h
                refine R_iald 4 e_X12_pour_3.2.2.2.2.2.2.2.2.2 kma_3 q30 ?_
                obtain ⟨q31, h⟩ := h
                obtain ⟨q32, h⟩ := h
                refine R_icmp_eq 82 e_X12_pour_4.1 (by decide) q31 q32 (fun q => ?_) (fun q => ?_)
                · replace h := h.1 q
                  refine R_iload e_X12_pour_4.2.2.2.2.2.1 5 rfl ?_
                  refine R_aload_n e_X12_pour_4.2.2.2.2.2.2.1 0 rfl ?_
                  refine R_getA 12 6 4 e_X12_pour_4.2.2.2.2.2.2.2.1 f_X12_24 km_0 (fun _ _ => rfl) rm_0_6 (by decide) ?_
                  refine R_iload_n e_X12_pour_4.2.2.2.2.2.2.2.2.1 1 rfl ?_
                  obtain ⟨q33, h⟩ := h
                  refine R_iald 4 e_X12_pour_4.2.2.2.2.2.2.2.2.2 kma_4 q33 ?_
                  refine R_iload_n e_X12_pour_5.1 2 rfl ?_
                  refine R_isub e_X12_pour_5.2.1 ?_
                  obtain ⟨q34, h⟩ := h
                  refine R_icmp_gt 109 e_X12_pour_5.2.2.1 (by decide) q21 q34 (fun q => ?_) (fun q => ?_)
                  · replace h := h.1 q
                    refine R_aload_n e_X12_pour_6.2.1 0 rfl ?_
                    refine R_iconst e_X12_pour_6.2.2.1 ?_
                    obtain ⟨q37, h⟩ := h
                    refine R_callV (mc := 0) (ms := 0) (mc' := 0) (ms' := 0) (M' := M_X12_is) (d' := 0) (as := [vI 3]) (st := []) 12 1 e_X12_pour_6.2.2.2.1 (kCVof m_X12_is l_X12_100) rfl (by decide) km_0 (by decide) (by decide) rfl rfl (by show (0 : Nat) ≤ 8; decide) ?_
                    refine Run.mono (P_X12_is q37) (fun rr ss e => ?_)
                    obtain ⟨e1, e2⟩ := e
                    refine R_eqs (st2 := [vI (kb ((3 : Int) = 0))]) (σ2 := (kup σ 0 2 (3))) (by rw [e1]; rfl) e2 ?_
                    exact R_zreturn e_X12_pour_6.2.2.2.2.1 rfl (kb_01 _) h
                  · replace h := h.2 q
                    refine R_iload e_X12_pour_5.2.2.2.1 5 rfl ?_
                    refine R_aload_n e_X12_pour_5.2.2.2.2.1 0 rfl ?_
                    refine R_getA 12 6 4 e_X12_pour_5.2.2.2.2.2.1 f_X12_24 km_0 (fun _ _ => rfl) rm_0_6 (by decide) ?_
                    refine R_iload_n e_X12_pour_5.2.2.2.2.2.2.1 3 rfl ?_
                    obtain ⟨q38, h⟩ := h
                    refine R_iald 4 e_X12_pour_5.2.2.2.2.2.2.2.1 kma_4 q38 ?_
                    refine R_iload e_X12_pour_5.2.2.2.2.2.2.2.2.1 4 rfl ?_
                    refine R_isub e_X12_pour_5.2.2.2.2.2.2.2.2.2 ?_
                    obtain ⟨q39, h⟩ := h
                    refine R_icmp_le 115 e_X12_pour_6.1 (by decide) q21 q39 (fun q => ?_) (fun q => ?_)
                    · replace h := h.1 q
                      refine R_iconst e_X12_pour_6.2.2.2.2.2.1 ?_
                      refine R_istore (ls2 := [(6, vI 0), (0, vA G 0), (1, vI l1), (2, vI l2), (3, vI l3), (4, vI l4), (5, vI l5)]) e_X12_pour_6.2.2.2.2.2.2.1 (by decide) rfl ?_
                      refine R_ls (ls2 := [(0, vA G 0), (1, vI l1), (2, vI l2), (3, vI l3), (4, vI l4), (5, vI l5), (6, vI 0)]) [1, 2, 3, 4, 5, 6, 0] rfl ?_
                      exact h
                    · replace h := h.2 q
                      refine R_aload_n e_X12_pour_6.2.1 0 rfl ?_
                      refine R_iconst e_X12_pour_6.2.2.1 ?_
                      obtain ⟨q42, h⟩ := h
                      refine R_callV (mc := 0) (ms := 0) (mc' := 0) (ms' := 0) (M' := M_X12_is) (d' := 0) (as := [vI 3]) (st := []) 12 1 e_X12_pour_6.2.2.2.1 (kCVof m_X12_is l_X12_100) rfl (by decide) km_0 (by decide) (by decide) rfl rfl (by show (0 : Nat) ≤ 8; decide) ?_
                      refine Run.mono (P_X12_is q42) (fun rr ss e => ?_)
                      obtain ⟨e1, e2⟩ := e
                      refine R_eqs (st2 := [vI (kb ((3 : Int) = 0))]) (σ2 := (kup σ 0 2 (3))) (by rw [e1]; rfl) e2 ?_
                      exact R_zreturn e_X12_pour_6.2.2.2.2.1 rfl (kb_01 _) h
                · replace h := h.2 q
                  refine R_aload_n e_X12_pour_4.2.1 0 rfl ?_
                  refine R_bipush e_X12_pour_4.2.2.1 (by decide) ?_
                  obtain ⟨q45, h⟩ := h
                  refine R_callV (mc := 0) (ms := 0) (mc' := 0) (ms' := 0) (M' := M_X12_is) (d' := 0) (as := [vI 8]) (st := []) 12 1 e_X12_pour_4.2.2.2.1 (kCVof m_X12_is l_X12_100) rfl (by decide) km_0 (by decide) (by decide) rfl rfl (by show (0 : Nat) ≤ 8; decide) ?_
                  refine Run.mono (P_X12_is q45) (fun rr ss e => ?_)
                  obtain ⟨e1, e2⟩ := e
                  refine R_eqs (st2 := [vI (kb ((8 : Int) = 0))]) (σ2 := (kup σ 0 2 (8))) (by rw [e1]; rfl) e2 ?_
                  exact R_zreturn e_X12_pour_4.2.2.2.2.1 rfl (kb_01 _) h
              · replace h := h.2 q
                refine R_aload_n e_X12_pour_2.2.2.2.2.2.2.2.2.1 0 rfl ?_
                refine R_iconst e_X12_pour_2.2.2.2.2.2.2.2.2.2 ?_
                obtain ⟨q48, h⟩ := h
                refine R_callV (mc := 0) (ms := 0) (mc' := 0) (ms' := 0) (M' := M_X12_is) (d' := 0) (as := [vI 2]) (st := []) 12 1 e_X12_pour_3.1 (kCVof m_X12_is l_X12_100) rfl (by decide) km_0 (by decide) (by decide) rfl rfl (by show (0 : Nat) ≤ 8; decide) ?_
                refine Run.mono (P_X12_is q48) (fun rr ss e => ?_)
                obtain ⟨e1, e2⟩ := e
                refine R_eqs (st2 := [vI (kb ((2 : Int) = 0))]) (σ2 := (kup σ 0 2 (2))) (by rw [e1]; rfl) e2 ?_
                exact R_zreturn e_X12_pour_3.2.1 rfl (kb_01 _) h
          · replace h := h.2 q
            refine R_aload_n e_X12_pour_1.2.2.1 0 rfl ?_
            refine R_iconst e_X12_pour_1.2.2.2.1 ?_
            obtain ⟨q51, h⟩ := h
            refine R_callV (mc := 0) (ms := 0) (mc' := 0) (ms' := 0) (M' := M_X12_is) (d' := 0) (as := [vI 1]) (st := []) 12 1 e_X12_pour_1.2.2.2.2.1 (kCVof m_X12_is l_X12_100) rfl (by decide) km_0 (by decide) (by decide) rfl rfl (by show (0 : Nat) ≤ 8; decide) ?_
            refine Run.mono (P_X12_is q51) (fun rr ss e => ?_)
            obtain ⟨e1, e2⟩ := e
            refine R_eqs (st2 := [vI (kb ((1 : Int) = 0))]) (σ2 := (kup σ 0 2 (1))) (by rw [e1]; rfl) e2 ?_
            exact R_zreturn e_X12_pour_1.2.2.2.2.2.1 rfl (kb_01 _) h
theorem S_X12_pour_118 {G : Kg} {σ : Kmem} {Q : Int → Kmem → Prop} {l1 l2 l3 l4 l5 l6 : Int}  (h : (rI l6) ∧ (rI l5) ∧ ((l5 ≤ l6 → (rI (0)) ∧ Q (kb ((0 : Int) = 0)) (kup σ 0 2 (0))) ∧ (l6 < l5 → (rI l2) ∧ (rI l4) ∧ ((l4 ≤ l2 → (0 ≤ ((60 * l1) + l2) + l6 ∧ ((60 * l1) + l2) + l6 < 240) ∧ (0 ≤ ((60 * l3) + l4) + l6 ∧ ((60 * l3) + l4) + l6 < 240) ∧ E_X12_pour_118 G l1 l2 l3 l4 l5 (l6 + 1) (kup σ 5 (((60 * l3) + l4) + l6) (σ 5 (((60 * l1) + l2) + l6))) Q) ∧ (l2 < l4 → (0 ≤ ((60 * l1) + l2) + ((l5 - 1) - l6) ∧ ((60 * l1) + l2) + ((l5 - 1) - l6) < 240) ∧ (0 ≤ ((60 * l3) + l4) + ((l5 - 1) - l6) ∧ ((60 * l3) + l4) + ((l5 - 1) - l6) < 240) ∧ E_X12_pour_118 G l1 l2 l3 l4 l5 (l6 + 1) (kup σ 5 (((60 * l3) + l4) + ((l5 - 1) - l6)) (σ 5 (((60 * l1) + l2) + ((l5 - 1) - l6)))) Q))))) : E_X12_pour_118 G l1 l2 l3 l4 l5 l6 σ Q := by
  refine R_iload e_X12_pour_6.2.2.2.2.2.2.2.1 6 rfl ?_
  refine R_iload e_X12_pour_6.2.2.2.2.2.2.2.2.1 5 rfl ?_
  obtain ⟨q52, h⟩ := h
  obtain ⟨q53, h⟩ := h
  refine R_icmp_ge 180 e_X12_pour_6.2.2.2.2.2.2.2.2.2 (by decide) q52 q53 (fun q => ?_) (fun q => ?_)
  · replace h := h.1 q
    refine R_aload_n e_X12_pour_10.2.2.2.1 0 rfl ?_
    refine R_iconst e_X12_pour_10.2.2.2.2.1 ?_
    obtain ⟨q56, h⟩ := h
    refine R_callV (mc := 0) (ms := 0) (mc' := 0) (ms' := 0) (M' := M_X12_is) (d' := 0) (as := [vI 0]) (st := []) 12 1 e_X12_pour_10.2.2.2.2.2.1 (kCVof m_X12_is l_X12_100) rfl (by decide) km_0 (by decide) (by decide) rfl rfl (by show (0 : Nat) ≤ 8; decide) ?_
    refine Run.mono (P_X12_is q56) (fun rr ss e => ?_)
    obtain ⟨e1, e2⟩ := e
    refine R_eqs (st2 := [vI (kb ((0 : Int) = 0))]) (σ2 := (kup σ 0 2 (0))) (by rw [e1]; rfl) e2 ?_
    exact R_zreturn e_X12_pour_10.2.2.2.2.2.2 rfl (kb_01 _) h
  · replace h := h.2 q
    refine R_iload_n e_X12_pour_7.1 2 rfl ?_
    refine R_iload e_X12_pour_7.2.1 4 rfl ?_
    obtain ⟨q57, h⟩ := h
    obtain ⟨q58, h⟩ := h
    refine R_icmp_ge 141 e_X12_pour_7.2.2.1 (by decide) q57 q58 (fun q => ?_) (fun q => ?_)
    · replace h := h.1 q
      refine R_iload e_X12_pour_7.2.2.2.2.2.2.2.2.2 6 rfl ?_
      refine R_istore (ls2 := [(7, vI l6), (0, vA G 0), (1, vI l1), (2, vI l2), (3, vI l3), (4, vI l4), (5, vI l5), (6, vI l6)]) e_X12_pour_8.1 (by decide) rfl ?_
      refine R_aload_n e_X12_pour_8.2.1 1 rfl ?_
      refine R_getA 12 7 5 e_X12_pour_8.2.2.1 f_X12_27 km_0 (fun _ _ => rfl) rm_0_7 (by decide) ?_
      refine R_bipush e_X12_pour_8.2.2.2.1 (by decide) ?_
      refine R_iload_n e_X12_pour_8.2.2.2.2.1 4 rfl ?_
      refine R_imul e_X12_pour_8.2.2.2.2.2.1 ?_
      refine R_iload e_X12_pour_8.2.2.2.2.2.2.1 5 rfl ?_
      refine R_iadd e_X12_pour_8.2.2.2.2.2.2.2.1 ?_
      refine R_iload e_X12_pour_8.2.2.2.2.2.2.2.2.1 0 rfl ?_
      refine R_iadd e_X12_pour_8.2.2.2.2.2.2.2.2.2 ?_
      refine R_aload_n e_X12_pour_9.1 1 rfl ?_
      refine R_getA 12 7 5 e_X12_pour_9.2.1 f_X12_27 km_0 (fun _ _ => rfl) rm_0_7 (by decide) ?_
      refine R_bipush e_X12_pour_9.2.2.1 (by decide) ?_
      refine R_iload_n e_X12_pour_9.2.2.2.1 2 rfl ?_
      refine R_imul e_X12_pour_9.2.2.2.2.1 ?_
      refine R_iload_n e_X12_pour_9.2.2.2.2.2.1 3 rfl ?_
      refine R_iadd e_X12_pour_9.2.2.2.2.2.2.1 ?_
      refine R_iload e_X12_pour_9.2.2.2.2.2.2.2.1 0 rfl ?_
      refine R_iadd e_X12_pour_9.2.2.2.2.2.2.2.2.1 ?_
      obtain ⟨q59, h⟩ := h
      refine R_lald 240 e_X12_pour_9.2.2.2.2.2.2.2.2.2 kma_5 q59 ?_
      obtain ⟨q60, h⟩ := h
      refine R_last 240 WM_ok e_X12_pour_10.1 kma_5 q60 ?_
      refine R_iinc (ls2 := [(6, vI (l6 + 1)), (7, vI l6), (0, vA G 0), (1, vI l1), (2, vI l2), (3, vI l3), (4, vI l4), (5, vI l5)]) e_X12_pour_10.2.1 7 rfl (by decide) rfl ?_
      refine R_goto 118 e_X12_pour_10.2.2.1 (by decide) ?_
      refine R_ls (ls2 := [(0, vA G 0), (1, vI l1), (2, vI l2), (3, vI l3), (4, vI l4), (5, vI l5), (6, vI (l6 + 1))]) [2, 3, 4, 5, 6, 7, 0] rfl ?_
      exact h
    · replace h := h.2 q
      refine R_iload e_X12_pour_7.2.2.2.1 5 rfl ?_
      refine R_iconst e_X12_pour_7.2.2.2.2.1 ?_
      refine R_isub e_X12_pour_7.2.2.2.2.2.1 ?_
      refine R_iload e_X12_pour_7.2.2.2.2.2.2.1 6 rfl ?_
      refine R_isub e_X12_pour_7.2.2.2.2.2.2.2.1 ?_
      refine R_goto 143 e_X12_pour_7.2.2.2.2.2.2.2.2.1 (by decide) ?_
      refine R_istore (ls2 := [(7, vI ((l5 - 1) - l6)), (0, vA G 0), (1, vI l1), (2, vI l2), (3, vI l3), (4, vI l4), (5, vI l5), (6, vI l6)]) e_X12_pour_8.1 (by decide) rfl ?_
      refine R_aload_n e_X12_pour_8.2.1 1 rfl ?_
      refine R_getA 12 7 5 e_X12_pour_8.2.2.1 f_X12_27 km_0 (fun _ _ => rfl) rm_0_7 (by decide) ?_
      refine R_bipush e_X12_pour_8.2.2.2.1 (by decide) ?_
      refine R_iload_n e_X12_pour_8.2.2.2.2.1 4 rfl ?_
      refine R_imul e_X12_pour_8.2.2.2.2.2.1 ?_
      refine R_iload e_X12_pour_8.2.2.2.2.2.2.1 5 rfl ?_
      refine R_iadd e_X12_pour_8.2.2.2.2.2.2.2.1 ?_
      refine R_iload e_X12_pour_8.2.2.2.2.2.2.2.2.1 0 rfl ?_
      refine R_iadd e_X12_pour_8.2.2.2.2.2.2.2.2.2 ?_
      refine R_aload_n e_X12_pour_9.1 1 rfl ?_
      refine R_getA 12 7 5 e_X12_pour_9.2.1 f_X12_27 km_0 (fun _ _ => rfl) rm_0_7 (by decide) ?_
      refine R_bipush e_X12_pour_9.2.2.1 (by decide) ?_
      refine R_iload_n e_X12_pour_9.2.2.2.1 2 rfl ?_
      refine R_imul e_X12_pour_9.2.2.2.2.1 ?_
      refine R_iload_n e_X12_pour_9.2.2.2.2.2.1 3 rfl ?_
      refine R_iadd e_X12_pour_9.2.2.2.2.2.2.1 ?_
      refine R_iload e_X12_pour_9.2.2.2.2.2.2.2.1 0 rfl ?_
      refine R_iadd e_X12_pour_9.2.2.2.2.2.2.2.2.1 ?_
      obtain ⟨q61, h⟩ := h
      refine R_lald 240 e_X12_pour_9.2.2.2.2.2.2.2.2.2 kma_5 q61 ?_
      obtain ⟨q62, h⟩ := h
      refine R_last 240 WM_ok e_X12_pour_10.1 kma_5 q62 ?_
      refine R_iinc (ls2 := [(6, vI (l6 + 1)), (7, vI ((l5 - 1) - l6)), (0, vA G 0), (1, vI l1), (2, vI l2), (3, vI l3), (4, vI l4), (5, vI l5)]) e_X12_pour_10.2.1 7 rfl (by decide) rfl ?_
      refine R_goto 118 e_X12_pour_10.2.2.1 (by decide) ?_
      refine R_ls (ls2 := [(0, vA G 0), (1, vI l1), (2, vI l2), (3, vI l3), (4, vI l4), (5, vI l5), (6, vI (l6 + 1))]) [2, 3, 4, 5, 6, 7, 0] rfl ?_
      exact h
/-! KiteLandModel.fault(I)I -/
theorem e_X12_fault_0 : decode cX12_fault 0 = .ok (.iload_n 1, 1) ∧ decode cX12_fault 1 = .ok (.ifCond .ne 10, 3) ∧ decode cX12_fault 4 = .ok (.aload_n 0, 1) ∧ decode cX12_fault 5 = .ok (.getfield 37, 3) ∧ decode cX12_fault 8 = .ok (.goto 16, 3) ∧ decode cX12_fault 11 = .ok (.iload_n 1, 1) ∧ decode cX12_fault 12 = .ok (.iconst 1, 1) ∧ decode cX12_fault 13 = .ok (.if_icmp .ne 10, 3) ∧ decode cX12_fault 16 = .ok (.aload_n 0, 1) ∧ decode cX12_fault 17 = .ok (.getfield 41, 3) := by decide +kernel
theorem e_X12_fault_1 : decode cX12_fault 20 = .ok (.goto 4, 3) ∧ decode cX12_fault 23 = .ok (.iconst (-1), 1) ∧ decode cX12_fault 24 = .ok (.ireturn, 1) := by decide +kernel
theorem S_X12_fault {G : Kg} {σ : Kmem} {Q : Int → Kmem → Prop} {l1 : Int}  (h : (rI l1) ∧ ((l1 ≠ 0 → ((l1 ≠ 1 → Q (-1) σ) ∧ (l1 = 1 → Q (σ 0 17) σ))) ∧ (l1 = 0 → Q (σ 0 16) σ))) : Run G WM M_X12_fault 0 0 0 [vA G 0, vI l1] σ Q := by
  refine Run.of (by decide +kernel) (by show (2 : Nat) ≤ 2; decide) ?_
  show Ex G WM M_X12_fault 0 0 0 0 [(0, vA G 0), (1, vI l1)] [] σ Q
  refine R_iload_n e_X12_fault_0.1 1 rfl ?_
  obtain ⟨q1, h⟩ := h
  refine R_if_ne 11 e_X12_fault_0.2.1 (by decide) q1  (fun q => ?_) (fun q => ?_)
  · replace h := h.1 q
    refine R_iload_n e_X12_fault_0.2.2.2.2.2.1 1 rfl ?_
    refine R_iconst e_X12_fault_0.2.2.2.2.2.2.1 ?_
    refine R_icmp_ne 23 e_X12_fault_0.2.2.2.2.2.2.2.1 (by decide) q1 (by decide) (fun q => ?_) (fun q => ?_)
    · replace h := h.1 q
      refine R_iconst e_X12_fault_1.2.1 ?_
      exact R_ireturn e_X12_fault_1.2.2 rfl h
    · replace h := h.2 q
      refine R_aload_n e_X12_fault_0.2.2.2.2.2.2.2.2.1 0 rfl ?_
      refine R_getI 12 17 17 e_X12_fault_0.2.2.2.2.2.2.2.2.2 f_X12_41 km_0 (fun _ _ => rfl) rfl ?_
      refine R_goto 24 e_X12_fault_1.1 (by decide) ?_
      exact R_ireturn e_X12_fault_1.2.2 rfl h
  · replace h := h.2 q
    refine R_aload_n e_X12_fault_0.2.2.1 0 rfl ?_
    refine R_getI 12 16 16 e_X12_fault_0.2.2.2.1 f_X12_37 km_0 (fun _ _ => rfl) rfl ?_
    refine R_goto 24 e_X12_fault_0.2.2.2.2.1 (by decide) ?_
    exact R_ireturn e_X12_fault_1.2.2 rfl h
/-! KiteLandModel.told(I)I -/
theorem e_X12_told_0 : decode cX12_told 0 = .ok (.iload_n 1, 1) ∧ decode cX12_told 1 = .ok (.ifCond .lt 9, 3) ∧ decode cX12_told 4 = .ok (.iload_n 1, 1) ∧ decode cX12_told 5 = .ok (.bipush 10, 2) ∧ decode cX12_told 7 = .ok (.if_icmp .le 11, 3) ∧ decode cX12_told 10 = .ok (.aload_n 0, 1) ∧ decode cX12_told 11 = .ok (.iconst 1, 1) ∧ decode cX12_told 12 = .ok (.invokevirtual 93, 3) ∧ decode cX12_told 15 = .ok (.goto 30, 3) ∧ decode cX12_told 18 = .ok (.aload_n 0, 1) := by decide +kernel
theorem e_X12_told_1 : decode cX12_told 19 = .ok (.iload_n 1, 1) ∧ decode cX12_told 20 = .ok (.bipush 8, 2) ∧ decode cX12_told 22 = .ok (.if_icmp .ge 12, 3) ∧ decode cX12_told 25 = .ok (.aload_n 0, 1) ∧ decode cX12_told 26 = .ok (.getfield 7, 3) ∧ decode cX12_told 29 = .ok (.iload_n 1, 1) ∧ decode cX12_told 30 = .ok (.iaload, 1) ∧ decode cX12_told 31 = .ok (.goto 11, 3) ∧ decode cX12_told 34 = .ok (.aload_n 0, 1) ∧ decode cX12_told 35 = .ok (.iload_n 1, 1) := by decide +kernel
theorem e_X12_told_2 : decode cX12_told 36 = .ok (.bipush 8, 2) ∧ decode cX12_told 38 = .ok (.isub, 1) ∧ decode cX12_told 39 = .ok (.invokevirtual 337, 3) ∧ decode cX12_told 42 = .ok (.invokevirtual 97, 3) ∧ decode cX12_told 45 = .ok (.ireturn, 1) := by decide +kernel
theorem S_X12_told {G : Kg} {σ : Kmem} {Q : Int → Kmem → Prop} {l1 : Int}  (h : (rI l1) ∧ ((l1 < 0 → Q (-1) (kup σ 0 2 1)) ∧ (0 ≤ l1 → ((l1 ≤ 10 → ((8 ≤ l1 → (wf (σ 1) ∧ (0 : Int) ≤ (l1 - 8) ∧ ((l1 - 8) : Int) ≤ 2) ∧ Q (sSet (σ 1) ((l1 - 8)) : Int) (kup σ 0 2 0)) ∧ (l1 < 8 → (0 ≤ l1 ∧ l1 < 3598) ∧ Q (σ 1 l1) (kup σ 0 2 0)))) ∧ (10 < l1 → Q (-1) (kup σ 0 2 1)))))) : Run G WM M_X12_told 5 0 0 [vA G 0, vI l1] σ Q := by
  refine Run.of (by decide +kernel) (by show (2 : Nat) ≤ 2; decide) ?_
  show Ex G WM M_X12_told 5 0 0 0 [(0, vA G 0), (1, vI l1)] [] σ Q
  refine R_iload_n e_X12_told_0.1 1 rfl ?_
  obtain ⟨q1, h⟩ := h
  refine R_if_lt 10 e_X12_told_0.2.1 (by decide) q1  (fun q => ?_) (fun q => ?_)
  · replace h := h.1 q
    refine R_aload_n e_X12_told_0.2.2.2.2.2.1 0 rfl ?_
    refine R_iconst e_X12_told_0.2.2.2.2.2.2.1 ?_
    refine R_callV (mc := 0) (ms := 0) (mc' := 0) (ms' := 0) (M' := M_X12_refuse) (d' := 0) (as := [vI 1]) (st := []) 12 1 e_X12_told_0.2.2.2.2.2.2.2.1 (kCVof m_X12_refuse l_X12_93) rfl (by decide) km_0 (by decide) (by decide) rfl rfl (by show (0 : Nat) ≤ 8; decide) ?_
    refine S_X12_refuse ?_
    refine R_eqs (st2 := [vI (-1)]) (σ2 := (kup σ 0 2 1)) rfl rfl ?_
    refine R_goto 45 e_X12_told_0.2.2.2.2.2.2.2.2.1 (by decide) ?_
    exact R_ireturn e_X12_told_2.2.2.2.2 rfl h
  · replace h := h.2 q
    refine R_iload_n e_X12_told_0.2.2.1 1 rfl ?_
    refine R_bipush e_X12_told_0.2.2.2.1 (by decide) ?_
    refine R_icmp_le 18 e_X12_told_0.2.2.2.2.1 (by decide) q1 (by decide) (fun q => ?_) (fun q => ?_)
    · replace h := h.1 q
      refine R_aload_n e_X12_told_0.2.2.2.2.2.2.2.2.2 0 rfl ?_
      refine R_iload_n e_X12_told_1.1 1 rfl ?_
      refine R_bipush e_X12_told_1.2.1 (by decide) ?_
      refine R_icmp_ge 34 e_X12_told_1.2.2.1 (by decide) q1 (by decide) (fun q => ?_) (fun q => ?_)
      · replace h := h.1 q
        refine R_aload_n e_X12_told_1.2.2.2.2.2.2.2.2.1 0 rfl ?_
        refine R_iload_n e_X12_told_1.2.2.2.2.2.2.2.2.2 1 rfl ?_
        refine R_bipush e_X12_told_2.1 (by decide) ?_
        refine R_isub e_X12_told_2.2.1 ?_
        obtain ⟨q6, h⟩ := h
        refine R_callV (mc := 0) (ms := 0) (mc' := 0) (ms' := 0) (M' := M_X12_setOf) (d' := 4) (as := [vI (l1 - 8)]) (st := [vA G 0]) 12 1 e_X12_told_2.2.2.1 (kCVof m_X12_setOf l_X12_337) rfl (by decide) km_0 (by decide) (by decide) rfl rfl (by show (1 : Nat) ≤ 8; decide) ?_
        refine Run.mono (P_X12_setOf q6) (fun rr ss e => ?_)
        obtain ⟨e1, e2⟩ := e
        refine R_eqs (st2 := [vI (sSet (σ 1) ((l1 - 8)) : Int), vA G 0]) (σ2 := σ) (by rw [e1]; rfl) e2 ?_
        refine R_callV (mc := 0) (ms := 0) (mc' := 0) (ms' := 0) (M' := M_X12_gives) (d' := 0) (as := [vI (sSet (σ 1) ((l1 - 8)) : Int)]) (st := []) 12 1 e_X12_told_2.2.2.2.1 (kCVof m_X12_gives l_X12_97) rfl (by decide) km_0 (by decide) (by decide) rfl rfl (by show (0 : Nat) ≤ 8; decide) ?_
        refine S_X12_gives ?_
        refine R_eqs (st2 := [vI (sSet (σ 1) ((l1 - 8)) : Int)]) (σ2 := (kup σ 0 2 0)) rfl rfl ?_
        exact R_ireturn e_X12_told_2.2.2.2.2 rfl h
      · replace h := h.2 q
        refine R_aload_n e_X12_told_1.2.2.2.1 0 rfl ?_
        refine R_getA 12 0 1 e_X12_told_1.2.2.2.2.1 f_X12_7 km_0 (fun _ _ => rfl) rm_0_0 (by decide) ?_
        refine R_iload_n e_X12_told_1.2.2.2.2.2.1 1 rfl ?_
        obtain ⟨q9, h⟩ := h
        refine R_iald 3598 e_X12_told_1.2.2.2.2.2.2.1 kma_1 q9 ?_
        refine R_goto 42 e_X12_told_1.2.2.2.2.2.2.2.1 (by decide) ?_
        refine R_callV (mc := 0) (ms := 0) (mc' := 0) (ms' := 0) (M' := M_X12_gives) (d' := 0) (as := [vI (σ 1 l1)]) (st := []) 12 1 e_X12_told_2.2.2.2.1 (kCVof m_X12_gives l_X12_97) rfl (by decide) km_0 (by decide) (by decide) rfl rfl (by show (0 : Nat) ≤ 8; decide) ?_
        refine S_X12_gives ?_
        refine R_eqs (st2 := [vI (σ 1 l1)]) (σ2 := (kup σ 0 2 0)) rfl rfl ?_
        exact R_ireturn e_X12_told_2.2.2.2.2 rfl h
    · replace h := h.2 q
      refine R_aload_n e_X12_told_0.2.2.2.2.2.1 0 rfl ?_
      refine R_iconst e_X12_told_0.2.2.2.2.2.2.1 ?_
      refine R_callV (mc := 0) (ms := 0) (mc' := 0) (ms' := 0) (M' := M_X12_refuse) (d' := 0) (as := [vI 1]) (st := []) 12 1 e_X12_told_0.2.2.2.2.2.2.2.1 (kCVof m_X12_refuse l_X12_93) rfl (by decide) km_0 (by decide) (by decide) rfl rfl (by show (0 : Nat) ≤ 8; decide) ?_
      refine S_X12_refuse ?_
      refine R_eqs (st2 := [vI (-1)]) (σ2 := (kup σ 0 2 1)) rfl rfl ?_
      refine R_goto 45 e_X12_told_0.2.2.2.2.2.2.2.2.1 (by decide) ?_
      exact R_ireturn e_X12_told_2.2.2.2.2 rfl h
/-! KiteLandModel.wind(II)I -/
theorem e_X12_wind_0 : decode cX12_wind 0 = .ok (.iload_n 1, 1) ∧ decode cX12_wind 1 = .ok (.invokestatic 340, 3) ∧ decode cX12_wind 4 = .ok (.ifCond .eq 32, 3) ∧ decode cX12_wind 7 = .ok (.iload_n 2, 1) ∧ decode cX12_wind 8 = .ok (.ifCond .lt 28, 3) ∧ decode cX12_wind 11 = .ok (.iload_n 2, 1) ∧ decode cX12_wind 12 = .ok (.iconst 1, 1) ∧ decode cX12_wind 13 = .ok (.if_icmp .gt 23, 3) ∧ decode cX12_wind 16 = .ok (.aload_n 0, 1) ∧ decode cX12_wind 17 = .ok (.aload_n 0, 1) := by decide +kernel
theorem e_X12_wind_1 : decode cX12_wind 18 = .ok (.getfield 7, 3) ∧ decode cX12_wind 21 = .ok (.bipush 10, 2) ∧ decode cX12_wind 23 = .ok (.iconst 2, 1) ∧ decode cX12_wind 24 = .ok (.iload_n 1, 1) ∧ decode cX12_wind 25 = .ok (.imul, 1) ∧ decode cX12_wind 26 = .ok (.iadd, 1) ∧ decode cX12_wind 27 = .ok (.iload_n 2, 1) ∧ decode cX12_wind 28 = .ok (.iadd, 1) ∧ decode cX12_wind 29 = .ok (.iaload, 1) ∧ decode cX12_wind 30 = .ok (.invokevirtual 97, 3) := by decide +kernel
theorem e_X12_wind_2 : decode cX12_wind 33 = .ok (.goto 8, 3) ∧ decode cX12_wind 36 = .ok (.aload_n 0, 1) ∧ decode cX12_wind 37 = .ok (.iconst 1, 1) ∧ decode cX12_wind 38 = .ok (.invokevirtual 93, 3) ∧ decode cX12_wind 41 = .ok (.ireturn, 1) := by decide +kernel
theorem S_X12_wind {G : Kg} {σ : Kmem} {Q : Int → Kmem → Prop} {l1 l2 : Int}  (h : (rI (l1)) ∧ ((¬ (sHr (l1)) → Q (-1) (kup σ 0 2 1)) ∧ ((sHr (l1)) → (rI l2) ∧ ((l2 < 0 → Q (-1) (kup σ 0 2 1)) ∧ (0 ≤ l2 → ((1 < l2 → Q (-1) (kup σ 0 2 1)) ∧ (l2 ≤ 1 → (0 ≤ (10 + (2 * l1)) + l2 ∧ (10 + (2 * l1)) + l2 < 3598) ∧ Q (σ 1 ((10 + (2 * l1)) + l2)) (kup σ 0 2 0)))))))) : Run G WM M_X12_wind 1 0 0 [vA G 0, vI l1, vI l2] σ Q := by
  refine Run.of (by decide +kernel) (by show (3 : Nat) ≤ 3; decide) ?_
  show Ex G WM M_X12_wind 1 0 0 0 [(0, vA G 0), (1, vI l1), (2, vI l2)] [] σ Q
  refine R_iload_n e_X12_wind_0.1 1 rfl ?_
  obtain ⟨q3, h⟩ := h
  refine R_callS (mc := 0) (ms := 0) (mc' := 0) (ms' := 0) (M' := M_X12_isHour) (d' := 0) (as := [vI l1]) (st := []) 1 e_X12_wind_0.2.1 (kCSof m_X12_isHour l_X12_340) (by decide) (by decide) rfl rfl (by show (0 : Nat) ≤ 8; decide) ?_
  refine Run.mono (P_X12_isHour q3) (fun rr ss e => ?_)
  obtain ⟨e1, e2⟩ := e
  refine R_eqs (st2 := [vI (kb (sHr (l1)))]) (σ2 := σ) (by rw [e1]; rfl) e2 ?_
  refine R_if_eq 36 e_X12_wind_0.2.2.1 (by decide) (kb_r _) (fun q => ?_) (fun q => ?_)
  · replace h := h.1 (kb_f q)
    refine R_aload_n e_X12_wind_2.2.1 0 rfl ?_
    refine R_iconst e_X12_wind_2.2.2.1 ?_
    refine R_callV (mc := 0) (ms := 0) (mc' := 0) (ms' := 0) (M' := M_X12_refuse) (d' := 0) (as := [vI 1]) (st := []) 12 1 e_X12_wind_2.2.2.2.1 (kCVof m_X12_refuse l_X12_93) rfl (by decide) km_0 (by decide) (by decide) rfl rfl (by show (0 : Nat) ≤ 8; decide) ?_
    refine S_X12_refuse ?_
    refine R_eqs (st2 := [vI (-1)]) (σ2 := (kup σ 0 2 1)) rfl rfl ?_
    exact R_ireturn e_X12_wind_2.2.2.2.2 rfl h
  · replace h := h.2 (kb_t q)
    refine R_iload_n e_X12_wind_0.2.2.2.1 2 rfl ?_
    obtain ⟨q6, h⟩ := h
    refine R_if_lt 36 e_X12_wind_0.2.2.2.2.1 (by decide) q6  (fun q => ?_) (fun q => ?_)
    · replace h := h.1 q
      refine R_aload_n e_X12_wind_2.2.1 0 rfl ?_
      refine R_iconst e_X12_wind_2.2.2.1 ?_
      refine R_callV (mc := 0) (ms := 0) (mc' := 0) (ms' := 0) (M' := M_X12_refuse) (d' := 0) (as := [vI 1]) (st := []) 12 1 e_X12_wind_2.2.2.2.1 (kCVof m_X12_refuse l_X12_93) rfl (by decide) km_0 (by decide) (by decide) rfl rfl (by show (0 : Nat) ≤ 8; decide) ?_
      refine S_X12_refuse ?_
      refine R_eqs (st2 := [vI (-1)]) (σ2 := (kup σ 0 2 1)) rfl rfl ?_
      exact R_ireturn e_X12_wind_2.2.2.2.2 rfl h
    · replace h := h.2 q
      refine R_iload_n e_X12_wind_0.2.2.2.2.2.1 2 rfl ?_
      refine R_iconst e_X12_wind_0.2.2.2.2.2.2.1 ?_
      refine R_icmp_gt 36 e_X12_wind_0.2.2.2.2.2.2.2.1 (by decide) q6 (by decide) (fun q => ?_) (fun q => ?_)
      · replace h := h.1 q
        refine R_aload_n e_X12_wind_2.2.1 0 rfl ?_
        refine R_iconst e_X12_wind_2.2.2.1 ?_
        refine R_callV (mc := 0) (ms := 0) (mc' := 0) (ms' := 0) (M' := M_X12_refuse) (d' := 0) (as := [vI 1]) (st := []) 12 1 e_X12_wind_2.2.2.2.1 (kCVof m_X12_refuse l_X12_93) rfl (by decide) km_0 (by decide) (by decide) rfl rfl (by show (0 : Nat) ≤ 8; decide) ?_
        refine S_X12_refuse ?_
        refine R_eqs (st2 := [vI (-1)]) (σ2 := (kup σ 0 2 1)) rfl rfl ?_
        exact R_ireturn e_X12_wind_2.2.2.2.2 rfl h
      · replace h := h.2 q
        refine R_aload_n e_X12_wind_0.2.2.2.2.2.2.2.2.1 0 rfl ?_
        refine R_aload_n e_X12_wind_0.2.2.2.2.2.2.2.2.2 0 rfl ?_
        refine R_getA 12 0 1 e_X12_wind_1.1 f_X12_7 km_0 (fun _ _ => rfl) rm_0_0 (by decide) ?_
        refine R_bipush e_X12_wind_1.2.1 (by decide) ?_
        refine R_iconst e_X12_wind_1.2.2.1 ?_
        refine R_iload_n e_X12_wind_1.2.2.2.1 1 rfl ?_
        refine R_imul e_X12_wind_1.2.2.2.2.1 ?_
        refine R_iadd e_X12_wind_1.2.2.2.2.2.1 ?_
        refine R_iload_n e_X12_wind_1.2.2.2.2.2.2.1 2 rfl ?_
        refine R_iadd e_X12_wind_1.2.2.2.2.2.2.2.1 ?_
        obtain ⟨q11, h⟩ := h
        refine R_iald 3598 e_X12_wind_1.2.2.2.2.2.2.2.2.1 kma_1 q11 ?_
        refine R_callV (mc := 0) (ms := 0) (mc' := 0) (ms' := 0) (M' := M_X12_gives) (d' := 0) (as := [vI (σ 1 ((10 + (2 * l1)) + l2))]) (st := []) 12 1 e_X12_wind_1.2.2.2.2.2.2.2.2.2 (kCVof m_X12_gives l_X12_97) rfl (by decide) km_0 (by decide) (by decide) rfl rfl (by show (0 : Nat) ≤ 8; decide) ?_
        refine S_X12_gives ?_
        refine R_eqs (st2 := [vI (σ 1 ((10 + (2 * l1)) + l2))]) (σ2 := (kup σ 0 2 0)) rfl rfl ?_
        refine R_goto 41 e_X12_wind_2.1 (by decide) ?_
        exact R_ireturn e_X12_wind_2.2.2.2.2 rfl h
/-! KiteLandModel.kite(II)I -/
theorem e_X12_kite_0 : decode cX12_kite 0 = .ok (.aload_n 0, 1) ∧ decode cX12_kite 1 = .ok (.iload_n 1, 1) ∧ decode cX12_kite 2 = .ok (.invokevirtual 343, 3) ∧ decode cX12_kite 5 = .ok (.ifCond .eq 26, 3) ∧ decode cX12_kite 8 = .ok (.iload_n 2, 1) ∧ decode cX12_kite 9 = .ok (.ifCond .lt 22, 3) ∧ decode cX12_kite 12 = .ok (.iload_n 2, 1) ∧ decode cX12_kite 13 = .ok (.bipush 7, 2) ∧ decode cX12_kite 15 = .ok (.if_icmp .gt 16, 3) ∧ decode cX12_kite 18 = .ok (.aload_n 0, 1) := by decide +kernel
theorem e_X12_kite_1 : decode cX12_kite 19 = .ok (.aload_n 0, 1) ∧ decode cX12_kite 20 = .ok (.iload_n 1, 1) ∧ decode cX12_kite 21 = .ok (.iload_n 2, 1) ∧ decode cX12_kite 22 = .ok (.invokevirtual 268, 3) ∧ decode cX12_kite 25 = .ok (.invokevirtual 97, 3) ∧ decode cX12_kite 28 = .ok (.goto 8, 3) ∧ decode cX12_kite 31 = .ok (.aload_n 0, 1) ∧ decode cX12_kite 32 = .ok (.iconst 1, 1) ∧ decode cX12_kite 33 = .ok (.invokevirtual 93, 3) ∧ decode cX12_kite 36 = .ok (.ireturn, 1) := by decide +kernel
theorem S_X12_kite {G : Kg} {σ : Kmem} {Q : Int → Kmem → Prop} {l1 l2 : Int}  (h : (rI l1 ∧ wf (σ 1)) ∧ ((¬ (sKt (σ 1) (l1)) → Q (-1) (kup σ 0 2 1)) ∧ ((sKt (σ 1) (l1)) → (rI l2) ∧ ((l2 < 0 → Q (-1) (kup σ 0 2 1)) ∧ (0 ≤ l2 → ((7 < l2 → Q (-1) (kup σ 0 2 1)) ∧ (l2 ≤ 7 → (0 ≤ (34 + (9 * l1)) + l2 ∧ (34 + (9 * l1)) + l2 < 3598) ∧ Q (σ 1 ((34 + (9 * l1)) + l2)) (kup σ 0 2 0)))))))) : Run G WM M_X12_kite 2 0 0 [vA G 0, vI l1, vI l2] σ Q := by
  refine Run.of (by decide +kernel) (by show (3 : Nat) ≤ 3; decide) ?_
  show Ex G WM M_X12_kite 2 0 0 0 [(0, vA G 0), (1, vI l1), (2, vI l2)] [] σ Q
  refine R_aload_n e_X12_kite_0.1 0 rfl ?_
  refine R_iload_n e_X12_kite_0.2.1 1 rfl ?_
  obtain ⟨q3, h⟩ := h
  refine R_callV (mc := 0) (ms := 0) (mc' := 0) (ms' := 0) (M' := M_X12_isKite) (d' := 0) (as := [vI l1]) (st := []) 12 1 e_X12_kite_0.2.2.1 (kCVof m_X12_isKite l_X12_343) rfl (by decide) km_0 (by decide) (by decide) rfl rfl (by show (0 : Nat) ≤ 8; decide) ?_
  refine Run.mono (P_X12_isKite q3) (fun rr ss e => ?_)
  obtain ⟨e1, e2⟩ := e
  refine R_eqs (st2 := [vI (kb (sKt (σ 1) (l1)))]) (σ2 := σ) (by rw [e1]; rfl) e2 ?_
  refine R_if_eq 31 e_X12_kite_0.2.2.2.1 (by decide) (kb_r _) (fun q => ?_) (fun q => ?_)
  · replace h := h.1 (kb_f q)
    refine R_aload_n e_X12_kite_1.2.2.2.2.2.2.1 0 rfl ?_
    refine R_iconst e_X12_kite_1.2.2.2.2.2.2.2.1 ?_
    refine R_callV (mc := 0) (ms := 0) (mc' := 0) (ms' := 0) (M' := M_X12_refuse) (d' := 0) (as := [vI 1]) (st := []) 12 1 e_X12_kite_1.2.2.2.2.2.2.2.2.1 (kCVof m_X12_refuse l_X12_93) rfl (by decide) km_0 (by decide) (by decide) rfl rfl (by show (0 : Nat) ≤ 8; decide) ?_
    refine S_X12_refuse ?_
    refine R_eqs (st2 := [vI (-1)]) (σ2 := (kup σ 0 2 1)) rfl rfl ?_
    exact R_ireturn e_X12_kite_1.2.2.2.2.2.2.2.2.2 rfl h
  · replace h := h.2 (kb_t q)
    refine R_iload_n e_X12_kite_0.2.2.2.2.1 2 rfl ?_
    obtain ⟨q6, h⟩ := h
    refine R_if_lt 31 e_X12_kite_0.2.2.2.2.2.1 (by decide) q6  (fun q => ?_) (fun q => ?_)
    · replace h := h.1 q
      refine R_aload_n e_X12_kite_1.2.2.2.2.2.2.1 0 rfl ?_
      refine R_iconst e_X12_kite_1.2.2.2.2.2.2.2.1 ?_
      refine R_callV (mc := 0) (ms := 0) (mc' := 0) (ms' := 0) (M' := M_X12_refuse) (d' := 0) (as := [vI 1]) (st := []) 12 1 e_X12_kite_1.2.2.2.2.2.2.2.2.1 (kCVof m_X12_refuse l_X12_93) rfl (by decide) km_0 (by decide) (by decide) rfl rfl (by show (0 : Nat) ≤ 8; decide) ?_
      refine S_X12_refuse ?_
      refine R_eqs (st2 := [vI (-1)]) (σ2 := (kup σ 0 2 1)) rfl rfl ?_
      exact R_ireturn e_X12_kite_1.2.2.2.2.2.2.2.2.2 rfl h
    · replace h := h.2 q
      refine R_iload_n e_X12_kite_0.2.2.2.2.2.2.1 2 rfl ?_
      refine R_bipush e_X12_kite_0.2.2.2.2.2.2.2.1 (by decide) ?_
      refine R_icmp_gt 31 e_X12_kite_0.2.2.2.2.2.2.2.2.1 (by decide) q6 (by decide) (fun q => ?_) (fun q => ?_)
      · replace h := h.1 q
        refine R_aload_n e_X12_kite_1.2.2.2.2.2.2.1 0 rfl ?_
        refine R_iconst e_X12_kite_1.2.2.2.2.2.2.2.1 ?_
        refine R_callV (mc := 0) (ms := 0) (mc' := 0) (ms' := 0) (M' := M_X12_refuse) (d' := 0) (as := [vI 1]) (st := []) 12 1 e_X12_kite_1.2.2.2.2.2.2.2.2.1 (kCVof m_X12_refuse l_X12_93) rfl (by decide) km_0 (by decide) (by decide) rfl rfl (by show (0 : Nat) ≤ 8; decide) ?_
        refine S_X12_refuse ?_
        refine R_eqs (st2 := [vI (-1)]) (σ2 := (kup σ 0 2 1)) rfl rfl ?_
        exact R_ireturn e_X12_kite_1.2.2.2.2.2.2.2.2.2 rfl h
      · replace h := h.2 q
        refine R_aload_n e_X12_kite_0.2.2.2.2.2.2.2.2.2 0 rfl ?_
        refine R_aload_n e_X12_kite_1.1 0 rfl ?_
        refine R_iload_n e_X12_kite_1.2.1 1 rfl ?_
        refine R_iload_n e_X12_kite_1.2.2.1 2 rfl ?_
        refine R_callV (mc := 0) (ms := 0) (mc' := 0) (ms' := 0) (M' := M_X12_of) (d' := 1) (as := [vI l1, vI l2]) (st := [vA G 0]) 12 2 e_X12_kite_1.2.2.2.1 (kCVof m_X12_of l_X12_268) rfl (by decide) km_0 (by decide) (by decide) rfl rfl (by show (1 : Nat) ≤ 8; decide) ?_
        obtain ⟨q15, h⟩ := h
        refine S_X12_of ⟨q15, ?_⟩
        refine R_eqs (st2 := [vI (σ 1 ((34 + (9 * l1)) + l2)), vA G 0]) (σ2 := σ) rfl rfl ?_
        refine R_callV (mc := 0) (ms := 0) (mc' := 0) (ms' := 0) (M' := M_X12_gives) (d' := 0) (as := [vI (σ 1 ((34 + (9 * l1)) + l2))]) (st := []) 12 1 e_X12_kite_1.2.2.2.2.1 (kCVof m_X12_gives l_X12_97) rfl (by decide) km_0 (by decide) (by decide) rfl rfl (by show (0 : Nat) ≤ 8; decide) ?_
        refine S_X12_gives ?_
        refine R_eqs (st2 := [vI (σ 1 ((34 + (9 * l1)) + l2))]) (σ2 := (kup σ 0 2 0)) rfl rfl ?_
        refine R_goto 36 e_X12_kite_1.2.2.2.2.2.1 (by decide) ?_
        exact R_ireturn e_X12_kite_1.2.2.2.2.2.2.2.2.2 rfl h
/-! KiteLandModel.crop(II)I -/
theorem e_X12_crop_0 : decode cX12_crop 0 = .ok (.aload_n 0, 1) ∧ decode cX12_crop 1 = .ok (.iload_n 1, 1) ∧ decode cX12_crop 2 = .ok (.invokevirtual 346, 3) ∧ decode cX12_crop 5 = .ok (.ifCond .eq 30, 3) ∧ decode cX12_crop 8 = .ok (.iload_n 2, 1) ∧ decode cX12_crop 9 = .ok (.ifCond .lt 26, 3) ∧ decode cX12_crop 12 = .ok (.iload_n 2, 1) ∧ decode cX12_crop 13 = .ok (.iconst 3, 1) ∧ decode cX12_crop 14 = .ok (.if_icmp .gt 21, 3) ∧ decode cX12_crop 17 = .ok (.aload_n 0, 1) := by decide +kernel
theorem e_X12_crop_1 : decode cX12_crop 18 = .ok (.aload_n 0, 1) ∧ decode cX12_crop 19 = .ok (.getfield 7, 3) ∧ decode cX12_crop 22 = .ok (.iload_n 1, 1) ∧ decode cX12_crop 23 = .ok (.invokestatic 334, 3) ∧ decode cX12_crop 26 = .ok (.iload_n 2, 1) ∧ decode cX12_crop 27 = .ok (.iadd, 1) ∧ decode cX12_crop 28 = .ok (.iaload, 1) ∧ decode cX12_crop 29 = .ok (.invokevirtual 97, 3) ∧ decode cX12_crop 32 = .ok (.goto 8, 3) ∧ decode cX12_crop 35 = .ok (.aload_n 0, 1) := by decide +kernel
theorem e_X12_crop_2 : decode cX12_crop 36 = .ok (.iconst 1, 1) ∧ decode cX12_crop 37 = .ok (.invokevirtual 93, 3) ∧ decode cX12_crop 40 = .ok (.ireturn, 1) := by decide +kernel
theorem S_X12_crop {G : Kg} {σ : Kmem} {Q : Int → Kmem → Prop} {l1 l2 : Int}  (h : (rI (l1) ∧ wf (σ 1)) ∧ ((¬ (0 ≤ l1 ∧ (l1 : Int) < (σ 1) 3) → Q (-1) (kup σ 0 2 1)) ∧ ((0 ≤ l1 ∧ (l1 : Int) < (σ 1) 3) → (rI l2) ∧ ((l2 < 0 → Q (-1) (kup σ 0 2 1)) ∧ (0 ≤ l2 → ((3 < l2 → Q (-1) (kup σ 0 2 1)) ∧ (l2 ≤ 3 → (0 ≤ (88 + (4 * l1)) + l2 ∧ (88 + (4 * l1)) + l2 < 3598) ∧ Q (σ 1 ((88 + (4 * l1)) + l2)) (kup σ 0 2 0)))))))) : Run G WM M_X12_crop 1 0 0 [vA G 0, vI l1, vI l2] σ Q := by
  refine Run.of (by decide +kernel) (by show (3 : Nat) ≤ 3; decide) ?_
  show Ex G WM M_X12_crop 1 0 0 0 [(0, vA G 0), (1, vI l1), (2, vI l2)] [] σ Q
  refine R_aload_n e_X12_crop_0.1 0 rfl ?_
  refine R_iload_n e_X12_crop_0.2.1 1 rfl ?_
  obtain ⟨q3, h⟩ := h
  refine R_callV (mc := 0) (ms := 0) (mc' := 0) (ms' := 0) (M' := M_X12_isCrop) (d' := 0) (as := [vI l1]) (st := []) 12 1 e_X12_crop_0.2.2.1 (kCVof m_X12_isCrop l_X12_346) rfl (by decide) km_0 (by decide) (by decide) rfl rfl (by show (0 : Nat) ≤ 8; decide) ?_
  refine Run.mono (P_X12_isCrop q3) (fun rr ss e => ?_)
  obtain ⟨e1, e2⟩ := e
  refine R_eqs (st2 := [vI (kb (0 ≤ l1 ∧ (l1 : Int) < (σ 1) 3))]) (σ2 := σ) (by rw [e1]; rfl) e2 ?_
  refine R_if_eq 35 e_X12_crop_0.2.2.2.1 (by decide) (kb_r _) (fun q => ?_) (fun q => ?_)
  · replace h := h.1 (kb_f q)
    refine R_aload_n e_X12_crop_1.2.2.2.2.2.2.2.2.2 0 rfl ?_
    refine R_iconst e_X12_crop_2.1 ?_
    refine R_callV (mc := 0) (ms := 0) (mc' := 0) (ms' := 0) (M' := M_X12_refuse) (d' := 0) (as := [vI 1]) (st := []) 12 1 e_X12_crop_2.2.1 (kCVof m_X12_refuse l_X12_93) rfl (by decide) km_0 (by decide) (by decide) rfl rfl (by show (0 : Nat) ≤ 8; decide) ?_
    refine S_X12_refuse ?_
    refine R_eqs (st2 := [vI (-1)]) (σ2 := (kup σ 0 2 1)) rfl rfl ?_
    exact R_ireturn e_X12_crop_2.2.2 rfl h
  · replace h := h.2 (kb_t q)
    refine R_iload_n e_X12_crop_0.2.2.2.2.1 2 rfl ?_
    obtain ⟨q6, h⟩ := h
    refine R_if_lt 35 e_X12_crop_0.2.2.2.2.2.1 (by decide) q6  (fun q => ?_) (fun q => ?_)
    · replace h := h.1 q
      refine R_aload_n e_X12_crop_1.2.2.2.2.2.2.2.2.2 0 rfl ?_
      refine R_iconst e_X12_crop_2.1 ?_
      refine R_callV (mc := 0) (ms := 0) (mc' := 0) (ms' := 0) (M' := M_X12_refuse) (d' := 0) (as := [vI 1]) (st := []) 12 1 e_X12_crop_2.2.1 (kCVof m_X12_refuse l_X12_93) rfl (by decide) km_0 (by decide) (by decide) rfl rfl (by show (0 : Nat) ≤ 8; decide) ?_
      refine S_X12_refuse ?_
      refine R_eqs (st2 := [vI (-1)]) (σ2 := (kup σ 0 2 1)) rfl rfl ?_
      exact R_ireturn e_X12_crop_2.2.2 rfl h
    · replace h := h.2 q
      refine R_iload_n e_X12_crop_0.2.2.2.2.2.2.1 2 rfl ?_
      refine R_iconst e_X12_crop_0.2.2.2.2.2.2.2.1 ?_
      refine R_icmp_gt 35 e_X12_crop_0.2.2.2.2.2.2.2.2.1 (by decide) q6 (by decide) (fun q => ?_) (fun q => ?_)
      · replace h := h.1 q
        refine R_aload_n e_X12_crop_1.2.2.2.2.2.2.2.2.2 0 rfl ?_
        refine R_iconst e_X12_crop_2.1 ?_
        refine R_callV (mc := 0) (ms := 0) (mc' := 0) (ms' := 0) (M' := M_X12_refuse) (d' := 0) (as := [vI 1]) (st := []) 12 1 e_X12_crop_2.2.1 (kCVof m_X12_refuse l_X12_93) rfl (by decide) km_0 (by decide) (by decide) rfl rfl (by show (0 : Nat) ≤ 8; decide) ?_
        refine S_X12_refuse ?_
        refine R_eqs (st2 := [vI (-1)]) (σ2 := (kup σ 0 2 1)) rfl rfl ?_
        exact R_ireturn e_X12_crop_2.2.2 rfl h
      · replace h := h.2 q
        refine R_aload_n e_X12_crop_0.2.2.2.2.2.2.2.2.2 0 rfl ?_
        refine R_aload_n e_X12_crop_1.1 0 rfl ?_
        refine R_getA 12 0 1 e_X12_crop_1.2.1 f_X12_7 km_0 (fun _ _ => rfl) rm_0_0 (by decide) ?_
        refine R_iload_n e_X12_crop_1.2.2.1 1 rfl ?_
        refine R_callS (mc := 0) (ms := 0) (mc' := 0) (ms' := 0) (M' := M_X12_cropRow) (d' := 0) (as := [vI l1]) (st := [vA G 1, vA G 0]) 1 e_X12_crop_1.2.2.2.1 (kCSof m_X12_cropRow l_X12_334) (by decide) (by decide) rfl rfl (by show (2 : Nat) ≤ 8; decide) ?_
        refine S_X12_cropRow ?_
        refine R_eqs (st2 := [vI (88 + (4 * l1)), vA G 1, vA G 0]) (σ2 := σ) rfl rfl ?_
        refine R_iload_n e_X12_crop_1.2.2.2.2.1 2 rfl ?_
        refine R_iadd e_X12_crop_1.2.2.2.2.2.1 ?_
        obtain ⟨q13, h⟩ := h
        refine R_iald 3598 e_X12_crop_1.2.2.2.2.2.2.1 kma_1 q13 ?_
        refine R_callV (mc := 0) (ms := 0) (mc' := 0) (ms' := 0) (M' := M_X12_gives) (d' := 0) (as := [vI (σ 1 ((88 + (4 * l1)) + l2))]) (st := []) 12 1 e_X12_crop_1.2.2.2.2.2.2.2.1 (kCVof m_X12_gives l_X12_97) rfl (by decide) km_0 (by decide) (by decide) rfl rfl (by show (0 : Nat) ≤ 8; decide) ?_
        refine S_X12_gives ?_
        refine R_eqs (st2 := [vI (σ 1 ((88 + (4 * l1)) + l2))]) (σ2 := (kup σ 0 2 0)) rfl rfl ?_
        refine R_goto 40 e_X12_crop_1.2.2.2.2.2.2.2.2.1 (by decide) ?_
        exact R_ireturn e_X12_crop_2.2.2 rfl h
/-! KiteLandModel.tenant(II)I -/
theorem e_X12_tenant_0 : decode cX12_tenant 0 = .ok (.aload_n 0, 1) ∧ decode cX12_tenant 1 = .ok (.iload_n 1, 1) ∧ decode cX12_tenant 2 = .ok (.invokevirtual 349, 3) ∧ decode cX12_tenant 5 = .ok (.ifCond .eq 30, 3) ∧ decode cX12_tenant 8 = .ok (.iload_n 2, 1) ∧ decode cX12_tenant 9 = .ok (.ifCond .lt 26, 3) ∧ decode cX12_tenant 12 = .ok (.iload_n 2, 1) ∧ decode cX12_tenant 13 = .ok (.iconst 4, 1) ∧ decode cX12_tenant 14 = .ok (.if_icmp .gt 21, 3) ∧ decode cX12_tenant 17 = .ok (.aload_n 0, 1) := by decide +kernel
theorem e_X12_tenant_1 : decode cX12_tenant 18 = .ok (.aload_n 0, 1) ∧ decode cX12_tenant 19 = .ok (.getfield 7, 3) ∧ decode cX12_tenant 22 = .ok (.iload_n 1, 1) ∧ decode cX12_tenant 23 = .ok (.invokestatic 352, 3) ∧ decode cX12_tenant 26 = .ok (.iload_n 2, 1) ∧ decode cX12_tenant 27 = .ok (.iadd, 1) ∧ decode cX12_tenant 28 = .ok (.iaload, 1) ∧ decode cX12_tenant 29 = .ok (.invokevirtual 97, 3) ∧ decode cX12_tenant 32 = .ok (.goto 8, 3) ∧ decode cX12_tenant 35 = .ok (.aload_n 0, 1) := by decide +kernel
theorem e_X12_tenant_2 : decode cX12_tenant 36 = .ok (.iconst 1, 1) ∧ decode cX12_tenant 37 = .ok (.invokevirtual 93, 3) ∧ decode cX12_tenant 40 = .ok (.ireturn, 1) := by decide +kernel
theorem S_X12_tenant {G : Kg} {σ : Kmem} {Q : Int → Kmem → Prop} {l1 l2 : Int}  (h : (rI (l1) ∧ wf (σ 1)) ∧ ((¬ (0 ≤ l1 ∧ (l1 : Int) < (σ 1) 4) → Q (-1) (kup σ 0 2 1)) ∧ ((0 ≤ l1 ∧ (l1 : Int) < (σ 1) 4) → (rI l2) ∧ ((l2 < 0 → Q (-1) (kup σ 0 2 1)) ∧ (0 ≤ l2 → ((4 < l2 → Q (-1) (kup σ 0 2 1)) ∧ (l2 ≤ 4 → (0 ≤ (120 + (5 * l1)) + l2 ∧ (120 + (5 * l1)) + l2 < 3598) ∧ Q (σ 1 ((120 + (5 * l1)) + l2)) (kup σ 0 2 0)))))))) : Run G WM M_X12_tenant 1 0 0 [vA G 0, vI l1, vI l2] σ Q := by
  refine Run.of (by decide +kernel) (by show (3 : Nat) ≤ 3; decide) ?_
  show Ex G WM M_X12_tenant 1 0 0 0 [(0, vA G 0), (1, vI l1), (2, vI l2)] [] σ Q
  refine R_aload_n e_X12_tenant_0.1 0 rfl ?_
  refine R_iload_n e_X12_tenant_0.2.1 1 rfl ?_
  obtain ⟨q3, h⟩ := h
  refine R_callV (mc := 0) (ms := 0) (mc' := 0) (ms' := 0) (M' := M_X12_isTenant) (d' := 0) (as := [vI l1]) (st := []) 12 1 e_X12_tenant_0.2.2.1 (kCVof m_X12_isTenant l_X12_349) rfl (by decide) km_0 (by decide) (by decide) rfl rfl (by show (0 : Nat) ≤ 8; decide) ?_
  refine Run.mono (P_X12_isTenant q3) (fun rr ss e => ?_)
  obtain ⟨e1, e2⟩ := e
  refine R_eqs (st2 := [vI (kb (0 ≤ l1 ∧ (l1 : Int) < (σ 1) 4))]) (σ2 := σ) (by rw [e1]; rfl) e2 ?_
  refine R_if_eq 35 e_X12_tenant_0.2.2.2.1 (by decide) (kb_r _) (fun q => ?_) (fun q => ?_)
  · replace h := h.1 (kb_f q)
    refine R_aload_n e_X12_tenant_1.2.2.2.2.2.2.2.2.2 0 rfl ?_
    refine R_iconst e_X12_tenant_2.1 ?_
    refine R_callV (mc := 0) (ms := 0) (mc' := 0) (ms' := 0) (M' := M_X12_refuse) (d' := 0) (as := [vI 1]) (st := []) 12 1 e_X12_tenant_2.2.1 (kCVof m_X12_refuse l_X12_93) rfl (by decide) km_0 (by decide) (by decide) rfl rfl (by show (0 : Nat) ≤ 8; decide) ?_
    refine S_X12_refuse ?_
    refine R_eqs (st2 := [vI (-1)]) (σ2 := (kup σ 0 2 1)) rfl rfl ?_
    exact R_ireturn e_X12_tenant_2.2.2 rfl h
  · replace h := h.2 (kb_t q)
    refine R_iload_n e_X12_tenant_0.2.2.2.2.1 2 rfl ?_
    obtain ⟨q6, h⟩ := h
    refine R_if_lt 35 e_X12_tenant_0.2.2.2.2.2.1 (by decide) q6  (fun q => ?_) (fun q => ?_)
    · replace h := h.1 q
      refine R_aload_n e_X12_tenant_1.2.2.2.2.2.2.2.2.2 0 rfl ?_
      refine R_iconst e_X12_tenant_2.1 ?_
      refine R_callV (mc := 0) (ms := 0) (mc' := 0) (ms' := 0) (M' := M_X12_refuse) (d' := 0) (as := [vI 1]) (st := []) 12 1 e_X12_tenant_2.2.1 (kCVof m_X12_refuse l_X12_93) rfl (by decide) km_0 (by decide) (by decide) rfl rfl (by show (0 : Nat) ≤ 8; decide) ?_
      refine S_X12_refuse ?_
      refine R_eqs (st2 := [vI (-1)]) (σ2 := (kup σ 0 2 1)) rfl rfl ?_
      exact R_ireturn e_X12_tenant_2.2.2 rfl h
    · replace h := h.2 q
      refine R_iload_n e_X12_tenant_0.2.2.2.2.2.2.1 2 rfl ?_
      refine R_iconst e_X12_tenant_0.2.2.2.2.2.2.2.1 ?_
      refine R_icmp_gt 35 e_X12_tenant_0.2.2.2.2.2.2.2.2.1 (by decide) q6 (by decide) (fun q => ?_) (fun q => ?_)
      · replace h := h.1 q
        refine R_aload_n e_X12_tenant_1.2.2.2.2.2.2.2.2.2 0 rfl ?_
        refine R_iconst e_X12_tenant_2.1 ?_
        refine R_callV (mc := 0) (ms := 0) (mc' := 0) (ms' := 0) (M' := M_X12_refuse) (d' := 0) (as := [vI 1]) (st := []) 12 1 e_X12_tenant_2.2.1 (kCVof m_X12_refuse l_X12_93) rfl (by decide) km_0 (by decide) (by decide) rfl rfl (by show (0 : Nat) ≤ 8; decide) ?_
        refine S_X12_refuse ?_
        refine R_eqs (st2 := [vI (-1)]) (σ2 := (kup σ 0 2 1)) rfl rfl ?_
        exact R_ireturn e_X12_tenant_2.2.2 rfl h
      · replace h := h.2 q
        refine R_aload_n e_X12_tenant_0.2.2.2.2.2.2.2.2.2 0 rfl ?_
        refine R_aload_n e_X12_tenant_1.1 0 rfl ?_
        refine R_getA 12 0 1 e_X12_tenant_1.2.1 f_X12_7 km_0 (fun _ _ => rfl) rm_0_0 (by decide) ?_
        refine R_iload_n e_X12_tenant_1.2.2.1 1 rfl ?_
        refine R_callS (mc := 0) (ms := 0) (mc' := 0) (ms' := 0) (M' := M_X12_tenantRow) (d' := 0) (as := [vI l1]) (st := [vA G 1, vA G 0]) 1 e_X12_tenant_1.2.2.2.1 (kCSof m_X12_tenantRow l_X12_352) (by decide) (by decide) rfl rfl (by show (2 : Nat) ≤ 8; decide) ?_
        refine S_X12_tenantRow ?_
        refine R_eqs (st2 := [vI (120 + (5 * l1)), vA G 1, vA G 0]) (σ2 := σ) rfl rfl ?_
        refine R_iload_n e_X12_tenant_1.2.2.2.2.1 2 rfl ?_
        refine R_iadd e_X12_tenant_1.2.2.2.2.2.1 ?_
        obtain ⟨q13, h⟩ := h
        refine R_iald 3598 e_X12_tenant_1.2.2.2.2.2.2.1 kma_1 q13 ?_
        refine R_callV (mc := 0) (ms := 0) (mc' := 0) (ms' := 0) (M' := M_X12_gives) (d' := 0) (as := [vI (σ 1 ((120 + (5 * l1)) + l2))]) (st := []) 12 1 e_X12_tenant_1.2.2.2.2.2.2.2.1 (kCVof m_X12_gives l_X12_97) rfl (by decide) km_0 (by decide) (by decide) rfl rfl (by show (0 : Nat) ≤ 8; decide) ?_
        refine S_X12_gives ?_
        refine R_eqs (st2 := [vI (σ 1 ((120 + (5 * l1)) + l2))]) (σ2 := (kup σ 0 2 0)) rfl rfl ?_
        refine R_goto 40 e_X12_tenant_1.2.2.2.2.2.2.2.2.1 (by decide) ?_
        exact R_ireturn e_X12_tenant_2.2.2 rfl h
/-! KiteLandModel.stands(III)I -/
theorem e_X12_stands_0 : decode cX12_stands 0 = .ok (.aload_n 0, 1) ∧ decode cX12_stands 1 = .ok (.iload_n 1, 1) ∧ decode cX12_stands 2 = .ok (.invokevirtual 343, 3) ∧ decode cX12_stands 5 = .ok (.ifCond .eq 19, 3) ∧ decode cX12_stands 8 = .ok (.iload_n 2, 1) ∧ decode cX12_stands 9 = .ok (.invokestatic 340, 3) ∧ decode cX12_stands 12 = .ok (.ifCond .eq 12, 3) ∧ decode cX12_stands 15 = .ok (.iload_n 3, 1) ∧ decode cX12_stands 16 = .ok (.ifCond .lt 8, 3) ∧ decode cX12_stands 19 = .ok (.iload_n 3, 1) := by decide +kernel
theorem e_X12_stands_1 : decode cX12_stands 20 = .ok (.iconst 1, 1) ∧ decode cX12_stands 21 = .ok (.if_icmp .le 9, 3) ∧ decode cX12_stands 24 = .ok (.aload_n 0, 1) ∧ decode cX12_stands 25 = .ok (.iconst 1, 1) ∧ decode cX12_stands 26 = .ok (.invokevirtual 93, 3) ∧ decode cX12_stands 29 = .ok (.ireturn, 1) ∧ decode cX12_stands 30 = .ok (.aload_n 0, 1) ∧ decode cX12_stands 31 = .ok (.iload_n 1, 1) ∧ decode cX12_stands 32 = .ok (.iload_n 2, 1) ∧ decode cX12_stands 33 = .ok (.invokevirtual 319, 3) := by decide +kernel
theorem e_X12_stands_2 : decode cX12_stands 36 = .ok (.ifCond .ne 12, 3) ∧ decode cX12_stands 39 = .ok (.aload_n 0, 1) ∧ decode cX12_stands 40 = .ok (.bipush 6, 2) ∧ decode cX12_stands 42 = .ok (.invokevirtual 93, 3) ∧ decode cX12_stands 45 = .ok (.goto 26, 3) ∧ decode cX12_stands 48 = .ok (.aload_n 0, 1) ∧ decode cX12_stands 49 = .ok (.iload_n 3, 1) ∧ decode cX12_stands 50 = .ok (.ifCond .ne 12, 3) ∧ decode cX12_stands 53 = .ok (.aload_n 0, 1) ∧ decode cX12_stands 54 = .ok (.iload_n 1, 1) := by decide +kernel
theorem e_X12_stands_3 : decode cX12_stands 55 = .ok (.iload_n 2, 1) ∧ decode cX12_stands 56 = .ok (.invokevirtual 286, 3) ∧ decode cX12_stands 59 = .ok (.goto 9, 3) ∧ decode cX12_stands 62 = .ok (.aload_n 0, 1) ∧ decode cX12_stands 63 = .ok (.iload_n 1, 1) ∧ decode cX12_stands 64 = .ok (.iload_n 2, 1) ∧ decode cX12_stands 65 = .ok (.invokevirtual 292, 3) ∧ decode cX12_stands 68 = .ok (.invokevirtual 97, 3) ∧ decode cX12_stands 71 = .ok (.ireturn, 1) := by decide +kernel
theorem S_X12_stands {G : Kg} {σ : Kmem} {Q : Int → Kmem → Prop} {l1 l2 l3 : Int}  (h : (rI l1 ∧ wf (σ 1)) ∧ ((¬ (sKt (σ 1) (l1)) → Q (-1) (kup σ 0 2 1)) ∧ ((sKt (σ 1) (l1)) → (rI (l2)) ∧ ((¬ (sHr (l2)) → Q (-1) (kup σ 0 2 1)) ∧ ((sHr (l2)) → (rI l3) ∧ ((l3 < 0 → Q (-1) (kup σ 0 2 1)) ∧ (0 ≤ l3 → ((l3 ≤ 1 → (wf (σ 1) ∧ sKt (σ 1) (l1) ∧ sHr (l2)) ∧ (((sUp (σ 1) (l1) (l2)) → ((l3 ≠ 0 → (wf (σ 1) ∧ sKt (σ 1) (l1) ∧ sHr (l2)) ∧ Q (sRow (σ 1) (l1) (l2)) (kup σ 0 2 0)) ∧ (l3 = 0 → (wf (σ 1) ∧ sKt (σ 1) (l1) ∧ sHr (l2)) ∧ Q (sCol (σ 1) (l1) (l2)) (kup σ 0 2 0)))) ∧ (¬ (sUp (σ 1) (l1) (l2)) → Q (-1) (kup σ 0 2 6)))) ∧ (1 < l3 → Q (-1) (kup σ 0 2 1)))))))))) : Run G WM M_X12_stands 4 0 0 [vA G 0, vI l1, vI l2, vI l3] σ Q := by
  refine Run.of (by decide +kernel) (by show (4 : Nat) ≤ 4; decide) ?_
  show Ex G WM M_X12_stands 4 0 0 0 [(0, vA G 0), (1, vI l1), (2, vI l2), (3, vI l3)] [] σ Q
  refine R_aload_n e_X12_stands_0.1 0 rfl ?_
  refine R_iload_n e_X12_stands_0.2.1 1 rfl ?_
  obtain ⟨q3, h⟩ := h
  refine R_callV (mc := 0) (ms := 0) (mc' := 0) (ms' := 0) (M' := M_X12_isKite) (d' := 0) (as := [vI l1]) (st := []) 12 1 e_X12_stands_0.2.2.1 (kCVof m_X12_isKite l_X12_343) rfl (by decide) km_0 (by decide) (by decide) rfl rfl (by show (0 : Nat) ≤ 8; decide) ?_
  refine Run.mono (P_X12_isKite q3) (fun rr ss e => ?_)
  obtain ⟨e1, e2⟩ := e
  refine R_eqs (st2 := [vI (kb (sKt (σ 1) (l1)))]) (σ2 := σ) (by rw [e1]; rfl) e2 ?_
  refine R_if_eq 24 e_X12_stands_0.2.2.2.1 (by decide) (kb_r _) (fun q => ?_) (fun q => ?_)
  · replace h := h.1 (kb_f q)
    refine R_aload_n e_X12_stands_1.2.2.1 0 rfl ?_
    refine R_iconst e_X12_stands_1.2.2.2.1 ?_
    refine R_callV (mc := 0) (ms := 0) (mc' := 0) (ms' := 0) (M' := M_X12_refuse) (d' := 0) (as := [vI 1]) (st := []) 12 1 e_X12_stands_1.2.2.2.2.1 (kCVof m_X12_refuse l_X12_93) rfl (by decide) km_0 (by decide) (by decide) rfl rfl (by show (0 : Nat) ≤ 8; decide) ?_
    refine S_X12_refuse ?_
    refine R_eqs (st2 := [vI (-1)]) (σ2 := (kup σ 0 2 1)) rfl rfl ?_
    exact R_ireturn e_X12_stands_1.2.2.2.2.2.1 rfl h
  · replace h := h.2 (kb_t q)
    refine R_iload_n e_X12_stands_0.2.2.2.2.1 2 rfl ?_
    obtain ⟨q8, h⟩ := h
    refine R_callS (mc := 0) (ms := 0) (mc' := 0) (ms' := 0) (M' := M_X12_isHour) (d' := 0) (as := [vI l2]) (st := []) 1 e_X12_stands_0.2.2.2.2.2.1 (kCSof m_X12_isHour l_X12_340) (by decide) (by decide) rfl rfl (by show (0 : Nat) ≤ 8; decide) ?_
    refine Run.mono (P_X12_isHour q8) (fun rr ss e => ?_)
    obtain ⟨e1, e2⟩ := e
    refine R_eqs (st2 := [vI (kb (sHr (l2)))]) (σ2 := σ) (by rw [e1]; rfl) e2 ?_
    refine R_if_eq 24 e_X12_stands_0.2.2.2.2.2.2.1 (by decide) (kb_r _) (fun q => ?_) (fun q => ?_)
    · replace h := h.1 (kb_f q)
      refine R_aload_n e_X12_stands_1.2.2.1 0 rfl ?_
      refine R_iconst e_X12_stands_1.2.2.2.1 ?_
      refine R_callV (mc := 0) (ms := 0) (mc' := 0) (ms' := 0) (M' := M_X12_refuse) (d' := 0) (as := [vI 1]) (st := []) 12 1 e_X12_stands_1.2.2.2.2.1 (kCVof m_X12_refuse l_X12_93) rfl (by decide) km_0 (by decide) (by decide) rfl rfl (by show (0 : Nat) ≤ 8; decide) ?_
      refine S_X12_refuse ?_
      refine R_eqs (st2 := [vI (-1)]) (σ2 := (kup σ 0 2 1)) rfl rfl ?_
      exact R_ireturn e_X12_stands_1.2.2.2.2.2.1 rfl h
    · replace h := h.2 (kb_t q)
      refine R_iload_n e_X12_stands_0.2.2.2.2.2.2.2.1 3 rfl ?_
      obtain ⟨q11, h⟩ := h
      refine R_if_lt 24 e_X12_stands_0.2.2.2.2.2.2.2.2.1 (by decide) q11  (fun q => ?_) (fun q => ?_)
      · replace h := h.1 q
        refine R_aload_n e_X12_stands_1.2.2.1 0 rfl ?_
        refine R_iconst e_X12_stands_1.2.2.2.1 ?_
        refine R_callV (mc := 0) (ms := 0) (mc' := 0) (ms' := 0) (M' := M_X12_refuse) (d' := 0) (as := [vI 1]) (st := []) 12 1 e_X12_stands_1.2.2.2.2.1 (kCVof m_X12_refuse l_X12_93) rfl (by decide) km_0 (by decide) (by decide) rfl rfl (by show (0 : Nat) ≤ 8; decide) ?_
        refine S_X12_refuse ?_
        refine R_eqs (st2 := [vI (-1)]) (σ2 := (kup σ 0 2 1)) rfl rfl ?_
        exact R_ireturn e_X12_stands_1.2.2.2.2.2.1 rfl h
      · replace h := h.2 q
        refine R_iload_n e_X12_stands_0.2.2.2.2.2.2.2.2.2 3 rfl ?_
        refine R_iconst e_X12_stands_1.1 ?_
        refine R_icmp_le 30 e_X12_stands_1.2.1 (by decide) q11 (by decide) (fun q => ?_) (fun q => ?_)
        · replace h := h.1 q
          refine R_aload_n e_X12_stands_1.2.2.2.2.2.2.1 0 rfl ?_
          refine R_iload_n e_X12_stands_1.2.2.2.2.2.2.2.1 1 rfl ?_
          refine R_iload_n e_X12_stands_1.2.2.2.2.2.2.2.2.1 2 rfl ?_
          obtain ⟨q16, h⟩ := h
          refine R_callV (mc := 0) (ms := 0) (mc' := 0) (ms' := 0) (M' := M_X12_isUp) (d' := 3) (as := [vI l1, vI l2]) (st := []) 12 2 e_X12_stands_1.2.2.2.2.2.2.2.2.2 (kCVof m_X12_isUp l_X12_319) rfl (by decide) km_0 (by decide) (by decide) rfl rfl (by show (0 : Nat) ≤ 8; decide) ?_
          refine Run.mono (P_X12_isUp q16) (fun rr ss e => ?_)
          obtain ⟨e1, e2⟩ := e
          refine R_eqs (st2 := [vI (kb (sUp (σ 1) (l1) (l2)))]) (σ2 := σ) (by rw [e1]; rfl) e2 ?_
          refine R_if_ne 48 e_X12_stands_2.1 (by decide) (kb_r _) (fun q => ?_) (fun q => ?_)
          · replace h := h.1 (kb_t q)
            refine R_aload_n e_X12_stands_2.2.2.2.2.2.1 0 rfl ?_
            refine R_iload_n e_X12_stands_2.2.2.2.2.2.2.1 3 rfl ?_
            refine R_if_ne 62 e_X12_stands_2.2.2.2.2.2.2.2.1 (by decide) q11  (fun q => ?_) (fun q => ?_)
            · replace h := h.1 q
              refine R_aload_n e_X12_stands_3.2.2.2.1 0 rfl ?_
              refine R_iload_n e_X12_stands_3.2.2.2.2.1 1 rfl ?_
              refine R_iload_n e_X12_stands_3.2.2.2.2.2.1 2 rfl ?_
              obtain ⟨q19, h⟩ := h
              refine R_callV (mc := 0) (ms := 0) (mc' := 0) (ms' := 0) (M' := M_X12_rowOf) (d' := 3) (as := [vI l1, vI l2]) (st := [vA G 0]) 12 2 e_X12_stands_3.2.2.2.2.2.2.1 (kCVof m_X12_rowOf l_X12_292) rfl (by decide) km_0 (by decide) (by decide) rfl rfl (by show (1 : Nat) ≤ 8; decide) ?_
              refine Run.mono (P_X12_rowOf q19) (fun rr ss e => ?_)
              obtain ⟨e1, e2⟩ := e
              refine R_eqs (st2 := [vI (sRow (σ 1) (l1) (l2)), vA G 0]) (σ2 := σ) (by rw [e1]; rfl) e2 ?_
              refine R_callV (mc := 0) (ms := 0) (mc' := 0) (ms' := 0) (M' := M_X12_gives) (d' := 0) (as := [vI (sRow (σ 1) (l1) (l2))]) (st := []) 12 1 e_X12_stands_3.2.2.2.2.2.2.2.1 (kCVof m_X12_gives l_X12_97) rfl (by decide) km_0 (by decide) (by decide) rfl rfl (by show (0 : Nat) ≤ 8; decide) ?_
              refine S_X12_gives ?_
              refine R_eqs (st2 := [vI (sRow (σ 1) (l1) (l2))]) (σ2 := (kup σ 0 2 0)) rfl rfl ?_
              exact R_ireturn e_X12_stands_3.2.2.2.2.2.2.2.2 rfl h
            · replace h := h.2 q
              refine R_aload_n e_X12_stands_2.2.2.2.2.2.2.2.2.1 0 rfl ?_
              refine R_iload_n e_X12_stands_2.2.2.2.2.2.2.2.2.2 1 rfl ?_
              refine R_iload_n e_X12_stands_3.1 2 rfl ?_
              obtain ⟨q24, h⟩ := h
              refine R_callV (mc := 0) (ms := 0) (mc' := 0) (ms' := 0) (M' := M_X12_columnOf) (d' := 3) (as := [vI l1, vI l2]) (st := [vA G 0]) 12 2 e_X12_stands_3.2.1 (kCVof m_X12_columnOf l_X12_286) rfl (by decide) km_0 (by decide) (by decide) rfl rfl (by show (1 : Nat) ≤ 8; decide) ?_
              refine Run.mono (P_X12_columnOf q24) (fun rr ss e => ?_)
              obtain ⟨e1, e2⟩ := e
              refine R_eqs (st2 := [vI (sCol (σ 1) (l1) (l2)), vA G 0]) (σ2 := σ) (by rw [e1]; rfl) e2 ?_
              refine R_goto 68 e_X12_stands_3.2.2.1 (by decide) ?_
              refine R_callV (mc := 0) (ms := 0) (mc' := 0) (ms' := 0) (M' := M_X12_gives) (d' := 0) (as := [vI (sCol (σ 1) (l1) (l2))]) (st := []) 12 1 e_X12_stands_3.2.2.2.2.2.2.2.1 (kCVof m_X12_gives l_X12_97) rfl (by decide) km_0 (by decide) (by decide) rfl rfl (by show (0 : Nat) ≤ 8; decide) ?_
              refine S_X12_gives ?_
              refine R_eqs (st2 := [vI (sCol (σ 1) (l1) (l2))]) (σ2 := (kup σ 0 2 0)) rfl rfl ?_
              exact R_ireturn e_X12_stands_3.2.2.2.2.2.2.2.2 rfl h
          · replace h := h.2 (kb_f q)
            refine R_aload_n e_X12_stands_2.2.1 0 rfl ?_
            refine R_bipush e_X12_stands_2.2.2.1 (by decide) ?_
            refine R_callV (mc := 0) (ms := 0) (mc' := 0) (ms' := 0) (M' := M_X12_refuse) (d' := 0) (as := [vI 6]) (st := []) 12 1 e_X12_stands_2.2.2.2.1 (kCVof m_X12_refuse l_X12_93) rfl (by decide) km_0 (by decide) (by decide) rfl rfl (by show (0 : Nat) ≤ 8; decide) ?_
            refine S_X12_refuse ?_
            refine R_eqs (st2 := [vI (-1)]) (σ2 := (kup σ 0 2 6)) rfl rfl ?_
            refine R_goto 71 e_X12_stands_2.2.2.2.2.1 (by decide) ?_
            exact R_ireturn e_X12_stands_3.2.2.2.2.2.2.2.2 rfl h
        · replace h := h.2 q
          refine R_aload_n e_X12_stands_1.2.2.1 0 rfl ?_
          refine R_iconst e_X12_stands_1.2.2.2.1 ?_
          refine R_callV (mc := 0) (ms := 0) (mc' := 0) (ms' := 0) (M' := M_X12_refuse) (d' := 0) (as := [vI 1]) (st := []) 12 1 e_X12_stands_1.2.2.2.2.1 (kCVof m_X12_refuse l_X12_93) rfl (by decide) km_0 (by decide) (by decide) rfl rfl (by show (0 : Nat) ≤ 8; decide) ?_
          refine S_X12_refuse ?_
          refine R_eqs (st2 := [vI (-1)]) (σ2 := (kup σ 0 2 1)) rfl rfl ?_
          exact R_ireturn e_X12_stands_1.2.2.2.2.2.1 rfl h
