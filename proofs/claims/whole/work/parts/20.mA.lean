/-! KiteLandModel.isTray(I)Z -/
theorem e_X12_isTray_0 : decode cX12_isTray 0 = .ok (.iload_n 0, 1) ∧ decode cX12_isTray 1 = .ok (.ifCond .lt 12, 3) ∧ decode cX12_isTray 4 = .ok (.iload_n 0, 1) ∧ decode cX12_isTray 5 = .ok (.iconst 4, 1) ∧ decode cX12_isTray 6 = .ok (.if_icmp .ge 7, 3) ∧ decode cX12_isTray 9 = .ok (.iconst 1, 1) ∧ decode cX12_isTray 10 = .ok (.goto 4, 3) ∧ decode cX12_isTray 13 = .ok (.iconst 0, 1) ∧ decode cX12_isTray 14 = .ok (.ireturn, 1) := by decide +kernel
theorem S_X12_isTray {G : Kg} {σ : Kmem} {Q : Int → Kmem → Prop} {l0 : Int}  (h : (rI l0) ∧ ((l0 < 0 → Q 0 σ) ∧ (0 ≤ l0 → ((4 ≤ l0 → Q 0 σ) ∧ (l0 < 4 → Q 1 σ))))) : Run G WM M_X12_isTray 0 0 0 [vI l0] σ Q := by
  refine Run.of (by decide +kernel) (by show (1 : Nat) ≤ 1; decide) ?_
  show Ex G WM M_X12_isTray 0 0 0 0 [(0, vI l0)] [] σ Q
  refine R_iload_n e_X12_isTray_0.1 0 rfl ?_
  obtain ⟨q1, h⟩ := h
  refine R_if_lt 13 e_X12_isTray_0.2.1 (by decide) q1  (fun q => ?_) (fun q => ?_)
  · replace h := h.1 q
    refine R_iconst e_X12_isTray_0.2.2.2.2.2.2.2.1 ?_
    exact R_zreturn e_X12_isTray_0.2.2.2.2.2.2.2.2 rfl (Or.inl rfl) h
  · replace h := h.2 q
    refine R_iload_n e_X12_isTray_0.2.2.1 0 rfl ?_
    refine R_iconst e_X12_isTray_0.2.2.2.1 ?_
    refine R_icmp_ge 13 e_X12_isTray_0.2.2.2.2.1 (by decide) q1 (by decide) (fun q => ?_) (fun q => ?_)
    · replace h := h.1 q
      refine R_iconst e_X12_isTray_0.2.2.2.2.2.2.2.1 ?_
      exact R_zreturn e_X12_isTray_0.2.2.2.2.2.2.2.2 rfl (Or.inl rfl) h
    · replace h := h.2 q
      refine R_iconst e_X12_isTray_0.2.2.2.2.2.1 ?_
      refine R_goto 14 e_X12_isTray_0.2.2.2.2.2.2.1 (by decide) ?_
      exact R_zreturn e_X12_isTray_0.2.2.2.2.2.2.2.2 rfl (Or.inr rfl) h
/-! KiteLandModel.isFrom(JJJ)Z -/
theorem e_X12_isFrom_0 : decode cX12_isFrom 0 = .ok (.lload_n 0, 1) ∧ decode cX12_isFrom 1 = .ok (.lload_n 2, 1) ∧ decode cX12_isFrom 2 = .ok (.lcmp, 1) ∧ decode cX12_isFrom 3 = .ok (.ifCond .lt 14, 3) ∧ decode cX12_isFrom 6 = .ok (.lload_n 0, 1) ∧ decode cX12_isFrom 7 = .ok (.lload 4, 2) ∧ decode cX12_isFrom 9 = .ok (.lcmp, 1) ∧ decode cX12_isFrom 10 = .ok (.ifCond .gt 7, 3) ∧ decode cX12_isFrom 13 = .ok (.iconst 1, 1) ∧ decode cX12_isFrom 14 = .ok (.goto 4, 3) := by decide +kernel
theorem e_X12_isFrom_1 : decode cX12_isFrom 17 = .ok (.iconst 0, 1) ∧ decode cX12_isFrom 18 = .ok (.ireturn, 1) := by decide +kernel
theorem S_X12_isFrom {G : Kg} {σ : Kmem} {Q : Int → Kmem → Prop} {l0 l2 l4 : Int}  (h : (rL l0) ∧ (rL l2) ∧ ((l0 < l2 → Q 0 σ) ∧ (l2 ≤ l0 → (rL l4) ∧ ((l4 < l0 → Q 0 σ) ∧ (l0 ≤ l4 → Q 1 σ))))) : Run G WM M_X12_isFrom 0 0 0 [vL l0, vL l2, vL l4] σ Q := by
  refine Run.of (by decide +kernel) (by show (6 : Nat) ≤ 6; decide) ?_
  show Ex G WM M_X12_isFrom 0 0 0 0 [(0, vL l0), (2, vL l2), (4, vL l4)] [] σ Q
  refine R_lload_n e_X12_isFrom_0.1 0 rfl ?_
  refine R_lload_n e_X12_isFrom_0.2.1 1 rfl ?_
  obtain ⟨q1, h⟩ := h
  obtain ⟨q2, h⟩ := h
  refine R_lcmp e_X12_isFrom_0.2.2.1 q1 q2 ?_
  refine R_if_lt 17 e_X12_isFrom_0.2.2.2.1 (by decide) (kcmp_r _ _) (fun q => ?_) (fun q => ?_)
  · replace h := h.1 (kcmp_lt_t.mp q)
    refine R_iconst e_X12_isFrom_1.1 ?_
    exact R_zreturn e_X12_isFrom_1.2 rfl (Or.inl rfl) h
  · replace h := h.2 (kcmp_lt_f.mp q)
    refine R_lload_n e_X12_isFrom_0.2.2.2.2.1 0 rfl ?_
    refine R_lload e_X12_isFrom_0.2.2.2.2.2.1 2 rfl ?_
    obtain ⟨q3, h⟩ := h
    refine R_lcmp e_X12_isFrom_0.2.2.2.2.2.2.1 q1 q3 ?_
    refine R_if_gt 17 e_X12_isFrom_0.2.2.2.2.2.2.2.1 (by decide) (kcmp_r _ _) (fun q => ?_) (fun q => ?_)
    · replace h := h.1 (kcmp_gt_t.mp q)
      refine R_iconst e_X12_isFrom_1.1 ?_
      exact R_zreturn e_X12_isFrom_1.2 rfl (Or.inl rfl) h
    · replace h := h.2 (kcmp_gt_f.mp q)
      refine R_iconst e_X12_isFrom_0.2.2.2.2.2.2.2.2.1 ?_
      refine R_goto 18 e_X12_isFrom_0.2.2.2.2.2.2.2.2.2 (by decide) ?_
      exact R_zreturn e_X12_isFrom_1.2 rfl (Or.inr rfl) h
/-! KiteLandModel.isSmall(I)Z -/
theorem e_X12_isSmall_0 : decode cX12_isSmall 0 = .ok (.iload_n 0, 1) ∧ decode cX12_isSmall 1 = .ok (.bipush 97, 2) ∧ decode cX12_isSmall 3 = .ok (.if_icmp .lt 13, 3) ∧ decode cX12_isSmall 6 = .ok (.iload_n 0, 1) ∧ decode cX12_isSmall 7 = .ok (.bipush 122, 2) ∧ decode cX12_isSmall 9 = .ok (.if_icmp .gt 7, 3) ∧ decode cX12_isSmall 12 = .ok (.iconst 1, 1) ∧ decode cX12_isSmall 13 = .ok (.goto 4, 3) ∧ decode cX12_isSmall 16 = .ok (.iconst 0, 1) ∧ decode cX12_isSmall 17 = .ok (.ireturn, 1) := by decide +kernel
theorem S_X12_isSmall {G : Kg} {σ : Kmem} {Q : Int → Kmem → Prop} {l0 : Int}  (h : (rI l0) ∧ ((l0 < 97 → Q 0 σ) ∧ (97 ≤ l0 → ((122 < l0 → Q 0 σ) ∧ (l0 ≤ 122 → Q 1 σ))))) : Run G WM M_X12_isSmall 0 0 0 [vI l0] σ Q := by
  refine Run.of (by decide +kernel) (by show (1 : Nat) ≤ 1; decide) ?_
  show Ex G WM M_X12_isSmall 0 0 0 0 [(0, vI l0)] [] σ Q
  refine R_iload_n e_X12_isSmall_0.1 0 rfl ?_
  refine R_bipush e_X12_isSmall_0.2.1 (by decide) ?_
  obtain ⟨q1, h⟩ := h
  refine R_icmp_lt 16 e_X12_isSmall_0.2.2.1 (by decide) q1 (by decide) (fun q => ?_) (fun q => ?_)
  · replace h := h.1 q
    refine R_iconst e_X12_isSmall_0.2.2.2.2.2.2.2.2.1 ?_
    exact R_zreturn e_X12_isSmall_0.2.2.2.2.2.2.2.2.2 rfl (Or.inl rfl) h
  · replace h := h.2 q
    refine R_iload_n e_X12_isSmall_0.2.2.2.1 0 rfl ?_
    refine R_bipush e_X12_isSmall_0.2.2.2.2.1 (by decide) ?_
    refine R_icmp_gt 16 e_X12_isSmall_0.2.2.2.2.2.1 (by decide) q1 (by decide) (fun q => ?_) (fun q => ?_)
    · replace h := h.1 q
      refine R_iconst e_X12_isSmall_0.2.2.2.2.2.2.2.2.1 ?_
      exact R_zreturn e_X12_isSmall_0.2.2.2.2.2.2.2.2.2 rfl (Or.inl rfl) h
    · replace h := h.2 q
      refine R_iconst e_X12_isSmall_0.2.2.2.2.2.2.1 ?_
      refine R_goto 17 e_X12_isSmall_0.2.2.2.2.2.2.2.1 (by decide) ?_
      exact R_zreturn e_X12_isSmall_0.2.2.2.2.2.2.2.2.2 rfl (Or.inr rfl) h
/-! KiteLandModel.isDigit(I)Z -/
theorem e_X12_isDigit_0 : decode cX12_isDigit 0 = .ok (.iload_n 0, 1) ∧ decode cX12_isDigit 1 = .ok (.bipush 48, 2) ∧ decode cX12_isDigit 3 = .ok (.if_icmp .lt 13, 3) ∧ decode cX12_isDigit 6 = .ok (.iload_n 0, 1) ∧ decode cX12_isDigit 7 = .ok (.bipush 57, 2) ∧ decode cX12_isDigit 9 = .ok (.if_icmp .gt 7, 3) ∧ decode cX12_isDigit 12 = .ok (.iconst 1, 1) ∧ decode cX12_isDigit 13 = .ok (.goto 4, 3) ∧ decode cX12_isDigit 16 = .ok (.iconst 0, 1) ∧ decode cX12_isDigit 17 = .ok (.ireturn, 1) := by decide +kernel
theorem S_X12_isDigit {G : Kg} {σ : Kmem} {Q : Int → Kmem → Prop} {l0 : Int}  (h : (rI l0) ∧ ((l0 < 48 → Q 0 σ) ∧ (48 ≤ l0 → ((57 < l0 → Q 0 σ) ∧ (l0 ≤ 57 → Q 1 σ))))) : Run G WM M_X12_isDigit 0 0 0 [vI l0] σ Q := by
  refine Run.of (by decide +kernel) (by show (1 : Nat) ≤ 1; decide) ?_
  show Ex G WM M_X12_isDigit 0 0 0 0 [(0, vI l0)] [] σ Q
  refine R_iload_n e_X12_isDigit_0.1 0 rfl ?_
  refine R_bipush e_X12_isDigit_0.2.1 (by decide) ?_
  obtain ⟨q1, h⟩ := h
  refine R_icmp_lt 16 e_X12_isDigit_0.2.2.1 (by decide) q1 (by decide) (fun q => ?_) (fun q => ?_)
  · replace h := h.1 q
    refine R_iconst e_X12_isDigit_0.2.2.2.2.2.2.2.2.1 ?_
    exact R_zreturn e_X12_isDigit_0.2.2.2.2.2.2.2.2.2 rfl (Or.inl rfl) h
  · replace h := h.2 q
    refine R_iload_n e_X12_isDigit_0.2.2.2.1 0 rfl ?_
    refine R_bipush e_X12_isDigit_0.2.2.2.2.1 (by decide) ?_
    refine R_icmp_gt 16 e_X12_isDigit_0.2.2.2.2.2.1 (by decide) q1 (by decide) (fun q => ?_) (fun q => ?_)
    · replace h := h.1 q
      refine R_iconst e_X12_isDigit_0.2.2.2.2.2.2.2.2.1 ?_
      exact R_zreturn e_X12_isDigit_0.2.2.2.2.2.2.2.2.2 rfl (Or.inl rfl) h
    · replace h := h.2 q
      refine R_iconst e_X12_isDigit_0.2.2.2.2.2.2.1 ?_
      refine R_goto 17 e_X12_isDigit_0.2.2.2.2.2.2.2.1 (by decide) ?_
      exact R_zreturn e_X12_isDigit_0.2.2.2.2.2.2.2.2.2 rfl (Or.inr rfl) h
/-! KiteLandModel.kiteRow(I)I -/
theorem e_X12_kiteRow_0 : decode cX12_kiteRow 0 = .ok (.bipush 34, 2) ∧ decode cX12_kiteRow 2 = .ok (.bipush 9, 2) ∧ decode cX12_kiteRow 4 = .ok (.iload_n 0, 1) ∧ decode cX12_kiteRow 5 = .ok (.imul, 1) ∧ decode cX12_kiteRow 6 = .ok (.iadd, 1) ∧ decode cX12_kiteRow 7 = .ok (.ireturn, 1) := by decide +kernel
theorem S_X12_kiteRow {G : Kg} {σ : Kmem} {Q : Int → Kmem → Prop} {l0 : Int}  (h : Q (34 + (9 * l0)) σ) : Run G WM M_X12_kiteRow 0 0 0 [vI l0] σ Q := by
  refine Run.of (by decide +kernel) (by show (1 : Nat) ≤ 1; decide) ?_
  show Ex G WM M_X12_kiteRow 0 0 0 0 [(0, vI l0)] [] σ Q
  refine R_bipush e_X12_kiteRow_0.1 (by decide) ?_
  refine R_bipush e_X12_kiteRow_0.2.1 (by decide) ?_
  refine R_iload_n e_X12_kiteRow_0.2.2.1 0 rfl ?_
  refine R_imul e_X12_kiteRow_0.2.2.2.1 ?_
  refine R_iadd e_X12_kiteRow_0.2.2.2.2.1 ?_
  exact R_ireturn e_X12_kiteRow_0.2.2.2.2.2 rfl h
/-! KiteLandModel.cropRow(I)I -/
theorem e_X12_cropRow_0 : decode cX12_cropRow 0 = .ok (.bipush 88, 2) ∧ decode cX12_cropRow 2 = .ok (.iconst 4, 1) ∧ decode cX12_cropRow 3 = .ok (.iload_n 0, 1) ∧ decode cX12_cropRow 4 = .ok (.imul, 1) ∧ decode cX12_cropRow 5 = .ok (.iadd, 1) ∧ decode cX12_cropRow 6 = .ok (.ireturn, 1) := by decide +kernel
theorem S_X12_cropRow {G : Kg} {σ : Kmem} {Q : Int → Kmem → Prop} {l0 : Int}  (h : Q (88 + (4 * l0)) σ) : Run G WM M_X12_cropRow 0 0 0 [vI l0] σ Q := by
  refine Run.of (by decide +kernel) (by show (1 : Nat) ≤ 1; decide) ?_
  show Ex G WM M_X12_cropRow 0 0 0 0 [(0, vI l0)] [] σ Q
  refine R_bipush e_X12_cropRow_0.1 (by decide) ?_
  refine R_iconst e_X12_cropRow_0.2.1 ?_
  refine R_iload_n e_X12_cropRow_0.2.2.1 0 rfl ?_
  refine R_imul e_X12_cropRow_0.2.2.2.1 ?_
  refine R_iadd e_X12_cropRow_0.2.2.2.2.1 ?_
  exact R_ireturn e_X12_cropRow_0.2.2.2.2.2 rfl h
/-! KiteLandModel.tenantRow(I)I -/
theorem e_X12_tenantRow_0 : decode cX12_tenantRow 0 = .ok (.bipush 120, 2) ∧ decode cX12_tenantRow 2 = .ok (.iconst 5, 1) ∧ decode cX12_tenantRow 3 = .ok (.iload_n 0, 1) ∧ decode cX12_tenantRow 4 = .ok (.imul, 1) ∧ decode cX12_tenantRow 5 = .ok (.iadd, 1) ∧ decode cX12_tenantRow 6 = .ok (.ireturn, 1) := by decide +kernel
theorem S_X12_tenantRow {G : Kg} {σ : Kmem} {Q : Int → Kmem → Prop} {l0 : Int}  (h : Q (120 + (5 * l0)) σ) : Run G WM M_X12_tenantRow 0 0 0 [vI l0] σ Q := by
  refine Run.of (by decide +kernel) (by show (1 : Nat) ≤ 1; decide) ?_
  show Ex G WM M_X12_tenantRow 0 0 0 0 [(0, vI l0)] [] σ Q
  refine R_bipush e_X12_tenantRow_0.1 (by decide) ?_
  refine R_iconst e_X12_tenantRow_0.2.1 ?_
  refine R_iload_n e_X12_tenantRow_0.2.2.1 0 rfl ?_
  refine R_imul e_X12_tenantRow_0.2.2.2.1 ?_
  refine R_iadd e_X12_tenantRow_0.2.2.2.2.1 ?_
  exact R_ireturn e_X12_tenantRow_0.2.2.2.2.2 rfl h
/-! KiteLandModel.of(II)I -/
theorem e_X12_of_0 : decode cX12_of 0 = .ok (.aload_n 0, 1) ∧ decode cX12_of 1 = .ok (.getfield 7, 3) ∧ decode cX12_of 4 = .ok (.iload_n 1, 1) ∧ decode cX12_of 5 = .ok (.invokestatic 265, 3) ∧ decode cX12_of 8 = .ok (.iload_n 2, 1) ∧ decode cX12_of 9 = .ok (.iadd, 1) ∧ decode cX12_of 10 = .ok (.iaload, 1) ∧ decode cX12_of 11 = .ok (.ireturn, 1) := by decide +kernel
theorem S_X12_of {G : Kg} {σ : Kmem} {Q : Int → Kmem → Prop} {l1 l2 : Int}  (h : (0 ≤ (34 + (9 * l1)) + l2 ∧ (34 + (9 * l1)) + l2 < 3598) ∧ Q (σ 1 ((34 + (9 * l1)) + l2)) σ) : Run G WM M_X12_of 1 0 0 [vA G 0, vI l1, vI l2] σ Q := by
  refine Run.of (by decide +kernel) (by show (3 : Nat) ≤ 3; decide) ?_
  show Ex G WM M_X12_of 1 0 0 0 [(0, vA G 0), (1, vI l1), (2, vI l2)] [] σ Q
  refine R_aload_n e_X12_of_0.1 0 rfl ?_
  refine R_getA 12 0 1 e_X12_of_0.2.1 f_X12_7 km_0 (fun _ _ => rfl) rm_0_0 (by decide) ?_
  refine R_iload_n e_X12_of_0.2.2.1 1 rfl ?_
  refine R_callS (mc := 0) (ms := 0) (mc' := 0) (ms' := 0) (M' := M_X12_kiteRow) (d' := 0) (as := [vI l1]) (st := [vA G 1]) 1 e_X12_of_0.2.2.2.1 (kCSof m_X12_kiteRow l_X12_265) (by decide) (by decide) rfl rfl (by show (1 : Nat) ≤ 8; decide) ?_
  refine S_X12_kiteRow ?_
  refine R_eqs (st2 := [vI (34 + (9 * l1)), vA G 1]) (σ2 := σ) rfl rfl ?_
  refine R_iload_n e_X12_of_0.2.2.2.2.1 2 rfl ?_
  refine R_iadd e_X12_of_0.2.2.2.2.2.1 ?_
  obtain ⟨q3, h⟩ := h
  refine R_iald 3598 e_X12_of_0.2.2.2.2.2.2.1 kma_1 q3 ?_
  exact R_ireturn e_X12_of_0.2.2.2.2.2.2.2 rfl h
/-! KiteLandModel.isKite(I)Z -/
theorem e_X12_isKite_0 : decode cX12_isKite 0 = .ok (.iload_n 1, 1) ∧ decode cX12_isKite 1 = .ok (.ifCond .lt 17, 3) ∧ decode cX12_isKite 4 = .ok (.iload_n 1, 1) ∧ decode cX12_isKite 5 = .ok (.aload_n 0, 1) ∧ decode cX12_isKite 6 = .ok (.getfield 7, 3) ∧ decode cX12_isKite 9 = .ok (.iconst 2, 1) ∧ decode cX12_isKite 10 = .ok (.iaload, 1) ∧ decode cX12_isKite 11 = .ok (.if_icmp .ge 7, 3) ∧ decode cX12_isKite 14 = .ok (.iconst 1, 1) ∧ decode cX12_isKite 15 = .ok (.goto 4, 3) := by decide +kernel
theorem e_X12_isKite_1 : decode cX12_isKite 18 = .ok (.iconst 0, 1) ∧ decode cX12_isKite 19 = .ok (.ireturn, 1) := by decide +kernel
theorem S_X12_isKite {G : Kg} {σ : Kmem} {Q : Int → Kmem → Prop} {l1 : Int}  (h : (rI l1) ∧ ((l1 < 0 → Q 0 σ) ∧ (0 ≤ l1 → (rI (σ 1 2)) ∧ ((σ 1 2 ≤ l1 → Q 0 σ) ∧ (l1 < σ 1 2 → Q 1 σ))))) : Run G WM M_X12_isKite 0 0 0 [vA G 0, vI l1] σ Q := by
  refine Run.of (by decide +kernel) (by show (2 : Nat) ≤ 2; decide) ?_
  show Ex G WM M_X12_isKite 0 0 0 0 [(0, vA G 0), (1, vI l1)] [] σ Q
  refine R_iload_n e_X12_isKite_0.1 1 rfl ?_
  obtain ⟨q1, h⟩ := h
  refine R_if_lt 18 e_X12_isKite_0.2.1 (by decide) q1  (fun q => ?_) (fun q => ?_)
  · replace h := h.1 q
    refine R_iconst e_X12_isKite_1.1 ?_
    exact R_zreturn e_X12_isKite_1.2 rfl (Or.inl rfl) h
  · replace h := h.2 q
    refine R_iload_n e_X12_isKite_0.2.2.1 1 rfl ?_
    refine R_aload_n e_X12_isKite_0.2.2.2.1 0 rfl ?_
    refine R_getA 12 0 1 e_X12_isKite_0.2.2.2.2.1 f_X12_7 km_0 (fun _ _ => rfl) rm_0_0 (by decide) ?_
    refine R_iconst e_X12_isKite_0.2.2.2.2.2.1 ?_
    refine R_iald 3598 e_X12_isKite_0.2.2.2.2.2.2.1 kma_1 (by decide) ?_
    obtain ⟨q2, h⟩ := h
    refine R_icmp_ge 18 e_X12_isKite_0.2.2.2.2.2.2.2.1 (by decide) q1 q2 (fun q => ?_) (fun q => ?_)
    · replace h := h.1 q
      refine R_iconst e_X12_isKite_1.1 ?_
      exact R_zreturn e_X12_isKite_1.2 rfl (Or.inl rfl) h
    · replace h := h.2 q
      refine R_iconst e_X12_isKite_0.2.2.2.2.2.2.2.2.1 ?_
      refine R_goto 19 e_X12_isKite_0.2.2.2.2.2.2.2.2.2 (by decide) ?_
      exact R_zreturn e_X12_isKite_1.2 rfl (Or.inr rfl) h
/-! KiteLandModel.isCrop(I)Z -/
theorem e_X12_isCrop_0 : decode cX12_isCrop 0 = .ok (.iload_n 1, 1) ∧ decode cX12_isCrop 1 = .ok (.ifCond .lt 17, 3) ∧ decode cX12_isCrop 4 = .ok (.iload_n 1, 1) ∧ decode cX12_isCrop 5 = .ok (.aload_n 0, 1) ∧ decode cX12_isCrop 6 = .ok (.getfield 7, 3) ∧ decode cX12_isCrop 9 = .ok (.iconst 3, 1) ∧ decode cX12_isCrop 10 = .ok (.iaload, 1) ∧ decode cX12_isCrop 11 = .ok (.if_icmp .ge 7, 3) ∧ decode cX12_isCrop 14 = .ok (.iconst 1, 1) ∧ decode cX12_isCrop 15 = .ok (.goto 4, 3) := by decide +kernel
theorem e_X12_isCrop_1 : decode cX12_isCrop 18 = .ok (.iconst 0, 1) ∧ decode cX12_isCrop 19 = .ok (.ireturn, 1) := by decide +kernel
theorem S_X12_isCrop {G : Kg} {σ : Kmem} {Q : Int → Kmem → Prop} {l1 : Int}  (h : (rI l1) ∧ ((l1 < 0 → Q 0 σ) ∧ (0 ≤ l1 → (rI (σ 1 3)) ∧ ((σ 1 3 ≤ l1 → Q 0 σ) ∧ (l1 < σ 1 3 → Q 1 σ))))) : Run G WM M_X12_isCrop 0 0 0 [vA G 0, vI l1] σ Q := by
  refine Run.of (by decide +kernel) (by show (2 : Nat) ≤ 2; decide) ?_
  show Ex G WM M_X12_isCrop 0 0 0 0 [(0, vA G 0), (1, vI l1)] [] σ Q
  refine R_iload_n e_X12_isCrop_0.1 1 rfl ?_
  obtain ⟨q1, h⟩ := h
  refine R_if_lt 18 e_X12_isCrop_0.2.1 (by decide) q1  (fun q => ?_) (fun q => ?_)
  · replace h := h.1 q
    refine R_iconst e_X12_isCrop_1.1 ?_
    exact R_zreturn e_X12_isCrop_1.2 rfl (Or.inl rfl) h
  · replace h := h.2 q
    refine R_iload_n e_X12_isCrop_0.2.2.1 1 rfl ?_
    refine R_aload_n e_X12_isCrop_0.2.2.2.1 0 rfl ?_
    refine R_getA 12 0 1 e_X12_isCrop_0.2.2.2.2.1 f_X12_7 km_0 (fun _ _ => rfl) rm_0_0 (by decide) ?_
    refine R_iconst e_X12_isCrop_0.2.2.2.2.2.1 ?_
    refine R_iald 3598 e_X12_isCrop_0.2.2.2.2.2.2.1 kma_1 (by decide) ?_
    obtain ⟨q2, h⟩ := h
    refine R_icmp_ge 18 e_X12_isCrop_0.2.2.2.2.2.2.2.1 (by decide) q1 q2 (fun q => ?_) (fun q => ?_)
    · replace h := h.1 q
      refine R_iconst e_X12_isCrop_1.1 ?_
      exact R_zreturn e_X12_isCrop_1.2 rfl (Or.inl rfl) h
    · replace h := h.2 q
      refine R_iconst e_X12_isCrop_0.2.2.2.2.2.2.2.2.1 ?_
      refine R_goto 19 e_X12_isCrop_0.2.2.2.2.2.2.2.2.2 (by decide) ?_
      exact R_zreturn e_X12_isCrop_1.2 rfl (Or.inr rfl) h
/-! KiteLandModel.isTenant(I)Z -/
theorem e_X12_isTenant_0 : decode cX12_isTenant 0 = .ok (.iload_n 1, 1) ∧ decode cX12_isTenant 1 = .ok (.ifCond .lt 17, 3) ∧ decode cX12_isTenant 4 = .ok (.iload_n 1, 1) ∧ decode cX12_isTenant 5 = .ok (.aload_n 0, 1) ∧ decode cX12_isTenant 6 = .ok (.getfield 7, 3) ∧ decode cX12_isTenant 9 = .ok (.iconst 4, 1) ∧ decode cX12_isTenant 10 = .ok (.iaload, 1) ∧ decode cX12_isTenant 11 = .ok (.if_icmp .ge 7, 3) ∧ decode cX12_isTenant 14 = .ok (.iconst 1, 1) ∧ decode cX12_isTenant 15 = .ok (.goto 4, 3) := by decide +kernel
theorem e_X12_isTenant_1 : decode cX12_isTenant 18 = .ok (.iconst 0, 1) ∧ decode cX12_isTenant 19 = .ok (.ireturn, 1) := by decide +kernel
theorem S_X12_isTenant {G : Kg} {σ : Kmem} {Q : Int → Kmem → Prop} {l1 : Int}  (h : (rI l1) ∧ ((l1 < 0 → Q 0 σ) ∧ (0 ≤ l1 → (rI (σ 1 4)) ∧ ((σ 1 4 ≤ l1 → Q 0 σ) ∧ (l1 < σ 1 4 → Q 1 σ))))) : Run G WM M_X12_isTenant 0 0 0 [vA G 0, vI l1] σ Q := by
  refine Run.of (by decide +kernel) (by show (2 : Nat) ≤ 2; decide) ?_
  show Ex G WM M_X12_isTenant 0 0 0 0 [(0, vA G 0), (1, vI l1)] [] σ Q
  refine R_iload_n e_X12_isTenant_0.1 1 rfl ?_
  obtain ⟨q1, h⟩ := h
  refine R_if_lt 18 e_X12_isTenant_0.2.1 (by decide) q1  (fun q => ?_) (fun q => ?_)
  · replace h := h.1 q
    refine R_iconst e_X12_isTenant_1.1 ?_
    exact R_zreturn e_X12_isTenant_1.2 rfl (Or.inl rfl) h
  · replace h := h.2 q
    refine R_iload_n e_X12_isTenant_0.2.2.1 1 rfl ?_
    refine R_aload_n e_X12_isTenant_0.2.2.2.1 0 rfl ?_
    refine R_getA 12 0 1 e_X12_isTenant_0.2.2.2.2.1 f_X12_7 km_0 (fun _ _ => rfl) rm_0_0 (by decide) ?_
    refine R_iconst e_X12_isTenant_0.2.2.2.2.2.1 ?_
    refine R_iald 3598 e_X12_isTenant_0.2.2.2.2.2.2.1 kma_1 (by decide) ?_
    obtain ⟨q2, h⟩ := h
    refine R_icmp_ge 18 e_X12_isTenant_0.2.2.2.2.2.2.2.1 (by decide) q1 q2 (fun q => ?_) (fun q => ?_)
    · replace h := h.1 q
      refine R_iconst e_X12_isTenant_1.1 ?_
      exact R_zreturn e_X12_isTenant_1.2 rfl (Or.inl rfl) h
    · replace h := h.2 q
      refine R_iconst e_X12_isTenant_0.2.2.2.2.2.2.2.2.1 ?_
      refine R_goto 19 e_X12_isTenant_0.2.2.2.2.2.2.2.2.2 (by decide) ?_
      exact R_zreturn e_X12_isTenant_1.2 rfl (Or.inr rfl) h
/-! KiteLandModel.isField(II)Z -/
theorem e_X12_isField_0 : decode cX12_isField 0 = .ok (.iload_n 1, 1) ∧ decode cX12_isField 1 = .ok (.ifCond .lt 31, 3) ∧ decode cX12_isField 4 = .ok (.iload_n 2, 1) ∧ decode cX12_isField 5 = .ok (.ifCond .lt 27, 3) ∧ decode cX12_isField 8 = .ok (.iload_n 1, 1) ∧ decode cX12_isField 9 = .ok (.aload_n 0, 1) ∧ decode cX12_isField 10 = .ok (.getfield 7, 3) ∧ decode cX12_isField 13 = .ok (.iconst 0, 1) ∧ decode cX12_isField 14 = .ok (.iaload, 1) ∧ decode cX12_isField 15 = .ok (.if_icmp .ge 17, 3) := by decide +kernel
theorem e_X12_isField_1 : decode cX12_isField 18 = .ok (.iload_n 2, 1) ∧ decode cX12_isField 19 = .ok (.aload_n 0, 1) ∧ decode cX12_isField 20 = .ok (.getfield 7, 3) ∧ decode cX12_isField 23 = .ok (.iconst 1, 1) ∧ decode cX12_isField 24 = .ok (.iaload, 1) ∧ decode cX12_isField 25 = .ok (.if_icmp .ge 7, 3) ∧ decode cX12_isField 28 = .ok (.iconst 1, 1) ∧ decode cX12_isField 29 = .ok (.goto 4, 3) ∧ decode cX12_isField 32 = .ok (.iconst 0, 1) ∧ decode cX12_isField 33 = .ok (.ireturn, 1) := by decide +kernel
theorem S_X12_isField {G : Kg} {σ : Kmem} {Q : Int → Kmem → Prop} {l1 l2 : Int}  (h : (rI l1) ∧ ((l1 < 0 → Q 0 σ) ∧ (0 ≤ l1 → (rI l2) ∧ ((l2 < 0 → Q 0 σ) ∧ (0 ≤ l2 → (rI (σ 1 0)) ∧ ((σ 1 0 ≤ l1 → Q 0 σ) ∧ (l1 < σ 1 0 → (rI (σ 1 1)) ∧ ((σ 1 1 ≤ l2 → Q 0 σ) ∧ (l2 < σ 1 1 → Q 1 σ))))))))) : Run G WM M_X12_isField 0 0 0 [vA G 0, vI l1, vI l2] σ Q := by
  refine Run.of (by decide +kernel) (by show (3 : Nat) ≤ 3; decide) ?_
  show Ex G WM M_X12_isField 0 0 0 0 [(0, vA G 0), (1, vI l1), (2, vI l2)] [] σ Q
  refine R_iload_n e_X12_isField_0.1 1 rfl ?_
  obtain ⟨q1, h⟩ := h
  refine R_if_lt 32 e_X12_isField_0.2.1 (by decide) q1  (fun q => ?_) (fun q => ?_)
  · replace h := h.1 q
    refine R_iconst e_X12_isField_1.2.2.2.2.2.2.2.2.1 ?_
    exact R_zreturn e_X12_isField_1.2.2.2.2.2.2.2.2.2 rfl (Or.inl rfl) h
  · replace h := h.2 q
    refine R_iload_n e_X12_isField_0.2.2.1 2 rfl ?_
    obtain ⟨q2, h⟩ := h
    refine R_if_lt 32 e_X12_isField_0.2.2.2.1 (by decide) q2  (fun q => ?_) (fun q => ?_)
    · replace h := h.1 q
      refine R_iconst e_X12_isField_1.2.2.2.2.2.2.2.2.1 ?_
      exact R_zreturn e_X12_isField_1.2.2.2.2.2.2.2.2.2 rfl (Or.inl rfl) h
    · replace h := h.2 q
      refine R_iload_n e_X12_isField_0.2.2.2.2.1 1 rfl ?_
      refine R_aload_n e_X12_isField_0.2.2.2.2.2.1 0 rfl ?_
      refine R_getA 12 0 1 e_X12_isField_0.2.2.2.2.2.2.1 f_X12_7 km_0 (fun _ _ => rfl) rm_0_0 (by decide) ?_
      refine R_iconst e_X12_isField_0.2.2.2.2.2.2.2.1 ?_
      refine R_iald 3598 e_X12_isField_0.2.2.2.2.2.2.2.2.1 kma_1 (by decide) ?_
      obtain ⟨q3, h⟩ := h
      refine R_icmp_ge 32 e_X12_isField_0.2.2.2.2.2.2.2.2.2 (by decide) q1 q3 (fun q => ?_) (fun q => ?_)
      · replace h := h.1 q
        refine R_iconst e_X12_isField_1.2.2.2.2.2.2.2.2.1 ?_
        exact R_zreturn e_X12_isField_1.2.2.2.2.2.2.2.2.2 rfl (Or.inl rfl) h
      · replace h := h.2 q
        refine R_iload_n e_X12_isField_1.1 2 rfl ?_
        refine R_aload_n e_X12_isField_1.2.1 0 rfl ?_
        refine R_getA 12 0 1 e_X12_isField_1.2.2.1 f_X12_7 km_0 (fun _ _ => rfl) rm_0_0 (by decide) ?_
        refine R_iconst e_X12_isField_1.2.2.2.1 ?_
        refine R_iald 3598 e_X12_isField_1.2.2.2.2.1 kma_1 (by decide) ?_
        obtain ⟨q4, h⟩ := h
        refine R_icmp_ge 32 e_X12_isField_1.2.2.2.2.2.1 (by decide) q2 q4 (fun q => ?_) (fun q => ?_)
        · replace h := h.1 q
          refine R_iconst e_X12_isField_1.2.2.2.2.2.2.2.2.1 ?_
          exact R_zreturn e_X12_isField_1.2.2.2.2.2.2.2.2.2 rfl (Or.inl rfl) h
        · replace h := h.2 q
          refine R_iconst e_X12_isField_1.2.2.2.2.2.2.1 ?_
          refine R_goto 33 e_X12_isField_1.2.2.2.2.2.2.2.1 (by decide) ?_
          exact R_zreturn e_X12_isField_1.2.2.2.2.2.2.2.2.2 rfl (Or.inr rfl) h
/-! KiteLandModel.isHour(I)Z -/
theorem e_X12_isHour_0 : decode cX12_isHour 0 = .ok (.iload_n 0, 1) ∧ decode cX12_isHour 1 = .ok (.ifCond .lt 13, 3) ∧ decode cX12_isHour 4 = .ok (.iload_n 0, 1) ∧ decode cX12_isHour 5 = .ok (.bipush 12, 2) ∧ decode cX12_isHour 7 = .ok (.if_icmp .ge 7, 3) ∧ decode cX12_isHour 10 = .ok (.iconst 1, 1) ∧ decode cX12_isHour 11 = .ok (.goto 4, 3) ∧ decode cX12_isHour 14 = .ok (.iconst 0, 1) ∧ decode cX12_isHour 15 = .ok (.ireturn, 1) := by decide +kernel
theorem S_X12_isHour {G : Kg} {σ : Kmem} {Q : Int → Kmem → Prop} {l0 : Int}  (h : (rI l0) ∧ ((l0 < 0 → Q 0 σ) ∧ (0 ≤ l0 → ((12 ≤ l0 → Q 0 σ) ∧ (l0 < 12 → Q 1 σ))))) : Run G WM M_X12_isHour 0 0 0 [vI l0] σ Q := by
  refine Run.of (by decide +kernel) (by show (1 : Nat) ≤ 1; decide) ?_
  show Ex G WM M_X12_isHour 0 0 0 0 [(0, vI l0)] [] σ Q
  refine R_iload_n e_X12_isHour_0.1 0 rfl ?_
  obtain ⟨q1, h⟩ := h
  refine R_if_lt 14 e_X12_isHour_0.2.1 (by decide) q1  (fun q => ?_) (fun q => ?_)
  · replace h := h.1 q
    refine R_iconst e_X12_isHour_0.2.2.2.2.2.2.2.1 ?_
    exact R_zreturn e_X12_isHour_0.2.2.2.2.2.2.2.2 rfl (Or.inl rfl) h
  · replace h := h.2 q
    refine R_iload_n e_X12_isHour_0.2.2.1 0 rfl ?_
    refine R_bipush e_X12_isHour_0.2.2.2.1 (by decide) ?_
    refine R_icmp_ge 14 e_X12_isHour_0.2.2.2.2.1 (by decide) q1 (by decide) (fun q => ?_) (fun q => ?_)
    · replace h := h.1 q
      refine R_iconst e_X12_isHour_0.2.2.2.2.2.2.2.1 ?_
      exact R_zreturn e_X12_isHour_0.2.2.2.2.2.2.2.2 rfl (Or.inl rfl) h
    · replace h := h.2 q
      refine R_iconst e_X12_isHour_0.2.2.2.2.2.1 ?_
      refine R_goto 15 e_X12_isHour_0.2.2.2.2.2.2.1 (by decide) ?_
      exact R_zreturn e_X12_isHour_0.2.2.2.2.2.2.2.2 rfl (Or.inr rfl) h
/-! KiteLandModel.isRow(I)Z -/
theorem e_X12_isRow_0 : decode cX12_isRow 0 = .ok (.iload_n 1, 1) ∧ decode cX12_isRow 1 = .ok (.ifCond .lt 17, 3) ∧ decode cX12_isRow 4 = .ok (.iload_n 1, 1) ∧ decode cX12_isRow 5 = .ok (.aload_n 0, 1) ∧ decode cX12_isRow 6 = .ok (.getfield 7, 3) ∧ decode cX12_isRow 9 = .ok (.iconst 1, 1) ∧ decode cX12_isRow 10 = .ok (.iaload, 1) ∧ decode cX12_isRow 11 = .ok (.if_icmp .ge 7, 3) ∧ decode cX12_isRow 14 = .ok (.iconst 1, 1) ∧ decode cX12_isRow 15 = .ok (.goto 4, 3) := by decide +kernel
theorem e_X12_isRow_1 : decode cX12_isRow 18 = .ok (.iconst 0, 1) ∧ decode cX12_isRow 19 = .ok (.ireturn, 1) := by decide +kernel
theorem S_X12_isRow {G : Kg} {σ : Kmem} {Q : Int → Kmem → Prop} {l1 : Int}  (h : (rI l1) ∧ ((l1 < 0 → Q 0 σ) ∧ (0 ≤ l1 → (rI (σ 1 1)) ∧ ((σ 1 1 ≤ l1 → Q 0 σ) ∧ (l1 < σ 1 1 → Q 1 σ))))) : Run G WM M_X12_isRow 0 0 0 [vA G 0, vI l1] σ Q := by
  refine Run.of (by decide +kernel) (by show (2 : Nat) ≤ 2; decide) ?_
  show Ex G WM M_X12_isRow 0 0 0 0 [(0, vA G 0), (1, vI l1)] [] σ Q
  refine R_iload_n e_X12_isRow_0.1 1 rfl ?_
  obtain ⟨q1, h⟩ := h
  refine R_if_lt 18 e_X12_isRow_0.2.1 (by decide) q1  (fun q => ?_) (fun q => ?_)
  · replace h := h.1 q
    refine R_iconst e_X12_isRow_1.1 ?_
    exact R_zreturn e_X12_isRow_1.2 rfl (Or.inl rfl) h
  · replace h := h.2 q
    refine R_iload_n e_X12_isRow_0.2.2.1 1 rfl ?_
    refine R_aload_n e_X12_isRow_0.2.2.2.1 0 rfl ?_
    refine R_getA 12 0 1 e_X12_isRow_0.2.2.2.2.1 f_X12_7 km_0 (fun _ _ => rfl) rm_0_0 (by decide) ?_
    refine R_iconst e_X12_isRow_0.2.2.2.2.2.1 ?_
    refine R_iald 3598 e_X12_isRow_0.2.2.2.2.2.2.1 kma_1 (by decide) ?_
    obtain ⟨q2, h⟩ := h
    refine R_icmp_ge 18 e_X12_isRow_0.2.2.2.2.2.2.2.1 (by decide) q1 q2 (fun q => ?_) (fun q => ?_)
    · replace h := h.1 q
      refine R_iconst e_X12_isRow_1.1 ?_
      exact R_zreturn e_X12_isRow_1.2 rfl (Or.inl rfl) h
    · replace h := h.2 q
      refine R_iconst e_X12_isRow_0.2.2.2.2.2.2.2.2.1 ?_
      refine R_goto 19 e_X12_isRow_0.2.2.2.2.2.2.2.2.2 (by decide) ?_
      exact R_zreturn e_X12_isRow_1.2 rfl (Or.inr rfl) h
/-! KiteLandModel.isIn(II)Z -/
theorem e_X12_isIn_0 : decode cX12_isIn 0 = .ok (.iload_n 1, 1) ∧ decode cX12_isIn 1 = .ok (.iload_n 2, 1) ∧ decode cX12_isIn 2 = .ok (.ishr, 1) ∧ decode cX12_isIn 3 = .ok (.iconst 1, 1) ∧ decode cX12_isIn 4 = .ok (.iand, 1) ∧ decode cX12_isIn 5 = .ok (.iconst 1, 1) ∧ decode cX12_isIn 6 = .ok (.if_icmp .ne 7, 3) ∧ decode cX12_isIn 9 = .ok (.iconst 1, 1) ∧ decode cX12_isIn 10 = .ok (.goto 4, 3) ∧ decode cX12_isIn 13 = .ok (.iconst 0, 1) := by decide +kernel
theorem e_X12_isIn_1 : decode cX12_isIn 14 = .ok (.ireturn, 1) := by decide +kernel
theorem S_X12_isIn {G : Kg} {σ : Kmem} {Q : Int → Kmem → Prop} {l1 l2 : Int}  (h : (rI (kand (kshr l1 l2) 1)) ∧ ((kand (kshr l1 l2) 1 ≠ 1 → Q 0 σ) ∧ (kand (kshr l1 l2) 1 = 1 → Q 1 σ))) : Run G WM M_X12_isIn 0 0 0 [vA G 0, vI l1, vI l2] σ Q := by
  refine Run.of (by decide +kernel) (by show (3 : Nat) ≤ 3; decide) ?_
  show Ex G WM M_X12_isIn 0 0 0 0 [(0, vA G 0), (1, vI l1), (2, vI l2)] [] σ Q
  refine R_iload_n e_X12_isIn_0.1 1 rfl ?_
  refine R_iload_n e_X12_isIn_0.2.1 2 rfl ?_
  refine R_ishr e_X12_isIn_0.2.2.1 ?_
  refine R_iconst e_X12_isIn_0.2.2.2.1 ?_
  refine R_iand e_X12_isIn_0.2.2.2.2.1 ?_
  refine R_iconst e_X12_isIn_0.2.2.2.2.2.1 ?_
  obtain ⟨q1, h⟩ := h
  refine R_icmp_ne 13 e_X12_isIn_0.2.2.2.2.2.2.1 (by decide) q1 (by decide) (fun q => ?_) (fun q => ?_)
  · replace h := h.1 q
    refine R_iconst e_X12_isIn_0.2.2.2.2.2.2.2.2.2 ?_
    exact R_zreturn e_X12_isIn_1 rfl (Or.inl rfl) h
  · replace h := h.2 q
    refine R_iconst e_X12_isIn_0.2.2.2.2.2.2.2.1 ?_
    refine R_goto 14 e_X12_isIn_0.2.2.2.2.2.2.2.2.1 (by decide) ?_
    exact R_zreturn e_X12_isIn_1 rfl (Or.inr rfl) h
/-! KiteLandModel.now()I -/
theorem e_X12_now_0 : decode cX12_now 0 = .ok (.aload_n 0, 1) ∧ decode cX12_now 1 = .ok (.getfield 7, 3) ∧ decode cX12_now 4 = .ok (.bipush 7, 2) ∧ decode cX12_now 6 = .ok (.iaload, 1) ∧ decode cX12_now 7 = .ok (.bipush 12, 2) ∧ decode cX12_now 9 = .ok (.irem, 1) ∧ decode cX12_now 10 = .ok (.ireturn, 1) := by decide +kernel
theorem S_X12_now {G : Kg} {σ : Kmem} {Q : Int → Kmem → Prop}  (h : (0 ≤ σ 1 7 ∧ σ 1 7 ≤ 2147483647) ∧ Q ((σ 1 7) % 12) σ) : Run G WM M_X12_now 0 0 0 [vA G 0] σ Q := by
  refine Run.of (by decide +kernel) (by show (1 : Nat) ≤ 1; decide) ?_
  show Ex G WM M_X12_now 0 0 0 0 [(0, vA G 0)] [] σ Q
  refine R_aload_n e_X12_now_0.1 0 rfl ?_
  refine R_getA 12 0 1 e_X12_now_0.2.1 f_X12_7 km_0 (fun _ _ => rfl) rm_0_0 (by decide) ?_
  refine R_bipush e_X12_now_0.2.2.1 (by decide) ?_
  refine R_iald 3598 e_X12_now_0.2.2.2.1 kma_1 (by decide) ?_
  refine R_bipush e_X12_now_0.2.2.2.2.1 (by decide) ?_
  obtain ⟨q1, h⟩ := h
  refine R_irem e_X12_now_0.2.2.2.2.2.1 q1 (by decide) ?_
  exact R_ireturn e_X12_now_0.2.2.2.2.2.2 rfl h
/-! KiteLandModel.fields()I -/
theorem e_X12_fields_0 : decode cX12_fields 0 = .ok (.aload_n 0, 1) ∧ decode cX12_fields 1 = .ok (.getfield 7, 3) ∧ decode cX12_fields 4 = .ok (.iconst 0, 1) ∧ decode cX12_fields 5 = .ok (.iaload, 1) ∧ decode cX12_fields 6 = .ok (.aload_n 0, 1) ∧ decode cX12_fields 7 = .ok (.getfield 7, 3) ∧ decode cX12_fields 10 = .ok (.iconst 1, 1) ∧ decode cX12_fields 11 = .ok (.iaload, 1) ∧ decode cX12_fields 12 = .ok (.imul, 1) ∧ decode cX12_fields 13 = .ok (.ireturn, 1) := by decide +kernel
theorem S_X12_fields {G : Kg} {σ : Kmem} {Q : Int → Kmem → Prop}  (h : Q ((σ 1 0) * (σ 1 1)) σ) : Run G WM M_X12_fields 0 0 0 [vA G 0] σ Q := by
  refine Run.of (by decide +kernel) (by show (1 : Nat) ≤ 1; decide) ?_
  show Ex G WM M_X12_fields 0 0 0 0 [(0, vA G 0)] [] σ Q
  refine R_aload_n e_X12_fields_0.1 0 rfl ?_
  refine R_getA 12 0 1 e_X12_fields_0.2.1 f_X12_7 km_0 (fun _ _ => rfl) rm_0_0 (by decide) ?_
  refine R_iconst e_X12_fields_0.2.2.1 ?_
  refine R_iald 3598 e_X12_fields_0.2.2.2.1 kma_1 (by decide) ?_
  refine R_aload_n e_X12_fields_0.2.2.2.2.1 0 rfl ?_
  refine R_getA 12 0 1 e_X12_fields_0.2.2.2.2.2.1 f_X12_7 km_0 (fun _ _ => rfl) rm_0_0 (by decide) ?_
  refine R_iconst e_X12_fields_0.2.2.2.2.2.2.1 ?_
  refine R_iald 3598 e_X12_fields_0.2.2.2.2.2.2.2.1 kma_1 (by decide) ?_
  refine R_imul e_X12_fields_0.2.2.2.2.2.2.2.2.1 ?_
  exact R_ireturn e_X12_fields_0.2.2.2.2.2.2.2.2.2 rfl h
/-! KiteLandModel.isRipe(I)Z -/
theorem e_X12_isRipe_0 : decode cX12_isRipe 0 = .ok (.aload_n 0, 1) ∧ decode cX12_isRipe 1 = .ok (.getfield 7, 3) ∧ decode cX12_isRipe 4 = .ok (.iload_n 1, 1) ∧ decode cX12_isRipe 5 = .ok (.invokestatic 334, 3) ∧ decode cX12_isRipe 8 = .ok (.iconst 3, 1) ∧ decode cX12_isRipe 9 = .ok (.iadd, 1) ∧ decode cX12_isRipe 10 = .ok (.iaload, 1) ∧ decode cX12_isRipe 11 = .ok (.aload_n 0, 1) ∧ decode cX12_isRipe 12 = .ok (.getfield 7, 3) ∧ decode cX12_isRipe 15 = .ok (.iload_n 1, 1) := by decide +kernel
theorem e_X12_isRipe_1 : decode cX12_isRipe 16 = .ok (.invokestatic 334, 3) ∧ decode cX12_isRipe 19 = .ok (.iconst 2, 1) ∧ decode cX12_isRipe 20 = .ok (.iadd, 1) ∧ decode cX12_isRipe 21 = .ok (.iaload, 1) ∧ decode cX12_isRipe 22 = .ok (.if_icmp .lt 7, 3) ∧ decode cX12_isRipe 25 = .ok (.iconst 1, 1) ∧ decode cX12_isRipe 26 = .ok (.goto 4, 3) ∧ decode cX12_isRipe 29 = .ok (.iconst 0, 1) ∧ decode cX12_isRipe 30 = .ok (.ireturn, 1) := by decide +kernel
theorem S_X12_isRipe {G : Kg} {σ : Kmem} {Q : Int → Kmem → Prop} {l1 : Int}  (h : (0 ≤ (88 + (4 * l1)) + 3 ∧ (88 + (4 * l1)) + 3 < 3598) ∧ (0 ≤ (88 + (4 * l1)) + 2 ∧ (88 + (4 * l1)) + 2 < 3598) ∧ (rI (σ 1 ((88 + (4 * l1)) + 3))) ∧ (rI (σ 1 ((88 + (4 * l1)) + 2))) ∧ ((σ 1 ((88 + (4 * l1)) + 3) < σ 1 ((88 + (4 * l1)) + 2) → Q 0 σ) ∧ (σ 1 ((88 + (4 * l1)) + 2) ≤ σ 1 ((88 + (4 * l1)) + 3) → Q 1 σ))) : Run G WM M_X12_isRipe 1 0 0 [vA G 0, vI l1] σ Q := by
  refine Run.of (by decide +kernel) (by show (2 : Nat) ≤ 2; decide) ?_
  show Ex G WM M_X12_isRipe 1 0 0 0 [(0, vA G 0), (1, vI l1)] [] σ Q
  refine R_aload_n e_X12_isRipe_0.1 0 rfl ?_
  refine R_getA 12 0 1 e_X12_isRipe_0.2.1 f_X12_7 km_0 (fun _ _ => rfl) rm_0_0 (by decide) ?_
  refine R_iload_n e_X12_isRipe_0.2.2.1 1 rfl ?_
  refine R_callS (mc := 0) (ms := 0) (mc' := 0) (ms' := 0) (M' := M_X12_cropRow) (d' := 0) (as := [vI l1]) (st := [vA G 1]) 1 e_X12_isRipe_0.2.2.2.1 (kCSof m_X12_cropRow l_X12_334) (by decide) (by decide) rfl rfl (by show (1 : Nat) ≤ 8; decide) ?_
  refine S_X12_cropRow ?_
  refine R_eqs (st2 := [vI (88 + (4 * l1)), vA G 1]) (σ2 := σ) rfl rfl ?_
  refine R_iconst e_X12_isRipe_0.2.2.2.2.1 ?_
  refine R_iadd e_X12_isRipe_0.2.2.2.2.2.1 ?_
  obtain ⟨q3, h⟩ := h
  refine R_iald 3598 e_X12_isRipe_0.2.2.2.2.2.2.1 kma_1 q3 ?_
  refine R_aload_n e_X12_isRipe_0.2.2.2.2.2.2.2.1 0 rfl ?_
  refine R_getA 12 0 1 e_X12_isRipe_0.2.2.2.2.2.2.2.2.1 f_X12_7 km_0 (fun _ _ => rfl) rm_0_0 (by decide) ?_
  refine R_iload_n e_X12_isRipe_0.2.2.2.2.2.2.2.2.2 1 rfl ?_
  refine R_callS (mc := 0) (ms := 0) (mc' := 0) (ms' := 0) (M' := M_X12_cropRow) (d' := 0) (as := [vI l1]) (st := [vA G 1, vI (σ 1 ((88 + (4 * l1)) + 3))]) 1 e_X12_isRipe_1.1 (kCSof m_X12_cropRow l_X12_334) (by decide) (by decide) rfl rfl (by show (2 : Nat) ≤ 8; decide) ?_
  refine S_X12_cropRow ?_
  refine R_eqs (st2 := [vI (88 + (4 * l1)), vA G 1, vI (σ 1 ((88 + (4 * l1)) + 3))]) (σ2 := σ) rfl rfl ?_
  refine R_iconst e_X12_isRipe_1.2.1 ?_
  refine R_iadd e_X12_isRipe_1.2.2.1 ?_
  obtain ⟨q6, h⟩ := h
  refine R_iald 3598 e_X12_isRipe_1.2.2.2.1 kma_1 q6 ?_
  obtain ⟨q7, h⟩ := h
  obtain ⟨q8, h⟩ := h
  refine R_icmp_lt 29 e_X12_isRipe_1.2.2.2.2.1 (by decide) q7 q8 (fun q => ?_) (fun q => ?_)
  · replace h := h.1 q
    refine R_iconst e_X12_isRipe_1.2.2.2.2.2.2.2.1 ?_
    exact R_zreturn e_X12_isRipe_1.2.2.2.2.2.2.2.2 rfl (Or.inl rfl) h
  · replace h := h.2 q
    refine R_iconst e_X12_isRipe_1.2.2.2.2.2.1 ?_
    refine R_goto 30 e_X12_isRipe_1.2.2.2.2.2.2.1 (by decide) ?_
    exact R_zreturn e_X12_isRipe_1.2.2.2.2.2.2.2.2 rfl (Or.inr rfl) h
/-! KiteLandModel.refuse(I)I -/
theorem e_X12_refuse_0 : decode cX12_refuse 0 = .ok (.aload_n 0, 1) ∧ decode cX12_refuse 1 = .ok (.iload_n 1, 1) ∧ decode cX12_refuse 2 = .ok (.putfield 87, 3) ∧ decode cX12_refuse 5 = .ok (.iconst (-1), 1) ∧ decode cX12_refuse 6 = .ok (.ireturn, 1) := by decide +kernel
theorem S_X12_refuse {G : Kg} {σ : Kmem} {Q : Int → Kmem → Prop} {l1 : Int}  (h : Q (-1) (kup σ 0 2 l1)) : Run G WM M_X12_refuse 0 0 0 [vA G 0, vI l1] σ Q := by
  refine Run.of (by decide +kernel) (by show (2 : Nat) ≤ 2; decide) ?_
  show Ex G WM M_X12_refuse 0 0 0 0 [(0, vA G 0), (1, vI l1)] [] σ Q
  refine R_aload_n e_X12_refuse_0.1 0 rfl ?_
  refine R_iload_n e_X12_refuse_0.2.1 1 rfl ?_
  refine R_putI 12 2 2 WM_ok e_X12_refuse_0.2.2.1 f_X12_87 km_0 rfl rfl rfl ?_
  refine R_iconst e_X12_refuse_0.2.2.2.1 ?_
  exact R_ireturn e_X12_refuse_0.2.2.2.2 rfl h
/-! KiteLandModel.gives(I)I -/
theorem e_X12_gives_0 : decode cX12_gives 0 = .ok (.aload_n 0, 1) ∧ decode cX12_gives 1 = .ok (.iconst 0, 1) ∧ decode cX12_gives 2 = .ok (.putfield 87, 3) ∧ decode cX12_gives 5 = .ok (.iload_n 1, 1) ∧ decode cX12_gives 6 = .ok (.ireturn, 1) := by decide +kernel
theorem S_X12_gives {G : Kg} {σ : Kmem} {Q : Int → Kmem → Prop} {l1 : Int}  (h : Q l1 (kup σ 0 2 0)) : Run G WM M_X12_gives 0 0 0 [vA G 0, vI l1] σ Q := by
  refine Run.of (by decide +kernel) (by show (2 : Nat) ≤ 2; decide) ?_
  show Ex G WM M_X12_gives 0 0 0 0 [(0, vA G 0), (1, vI l1)] [] σ Q
  refine R_aload_n e_X12_gives_0.1 0 rfl ?_
  refine R_iconst e_X12_gives_0.2.1 ?_
  refine R_putI 12 2 2 WM_ok e_X12_gives_0.2.2.1 f_X12_87 km_0 rfl rfl rfl ?_
  refine R_iload_n e_X12_gives_0.2.2.2.1 1 rfl ?_
  exact R_ireturn e_X12_gives_0.2.2.2.2 rfl h
/-! KiteLandModel.farFrom(II)I -/
theorem e_X12_farFrom_0 : decode cX12_farFrom 0 = .ok (.aload_n 0, 1) ∧ decode cX12_farFrom 1 = .ok (.iload_n 1, 1) ∧ decode cX12_farFrom 2 = .ok (.iconst 3, 1) ∧ decode cX12_farFrom 3 = .ok (.invokevirtual 268, 3) ∧ decode cX12_farFrom 6 = .ok (.aload_n 0, 1) ∧ decode cX12_farFrom 7 = .ok (.getfield 7, 3) ∧ decode cX12_farFrom 10 = .ok (.bipush 10, 2) ∧ decode cX12_farFrom 12 = .ok (.iconst 2, 1) ∧ decode cX12_farFrom 13 = .ok (.iload_n 2, 1) ∧ decode cX12_farFrom 14 = .ok (.imul, 1) := by decide +kernel
theorem e_X12_farFrom_1 : decode cX12_farFrom 15 = .ok (.iadd, 1) ∧ decode cX12_farFrom 16 = .ok (.iconst 1, 1) ∧ decode cX12_farFrom 17 = .ok (.iadd, 1) ∧ decode cX12_farFrom 18 = .ok (.iaload, 1) ∧ decode cX12_farFrom 19 = .ok (.imul, 1) ∧ decode cX12_farFrom 20 = .ok (.iconst 3, 1) ∧ decode cX12_farFrom 21 = .ok (.idiv, 1) ∧ decode cX12_farFrom 22 = .ok (.ireturn, 1) := by decide +kernel
theorem S_X12_farFrom {G : Kg} {σ : Kmem} {Q : Int → Kmem → Prop} {l1 l2 : Int}  (h : (0 ≤ (34 + (9 * l1)) + 3 ∧ (34 + (9 * l1)) + 3 < 3598) ∧ (0 ≤ (10 + (2 * l2)) + 1 ∧ (10 + (2 * l2)) + 1 < 3598) ∧ (0 ≤ (σ 1 ((34 + (9 * l1)) + 3)) * (σ 1 ((10 + (2 * l2)) + 1)) ∧ (σ 1 ((34 + (9 * l1)) + 3)) * (σ 1 ((10 + (2 * l2)) + 1)) ≤ 2147483647) ∧ Q (((σ 1 ((34 + (9 * l1)) + 3)) * (σ 1 ((10 + (2 * l2)) + 1))) / 3) σ) : Run G WM M_X12_farFrom 2 0 0 [vA G 0, vI l1, vI l2] σ Q := by
  refine Run.of (by decide +kernel) (by show (3 : Nat) ≤ 3; decide) ?_
  show Ex G WM M_X12_farFrom 2 0 0 0 [(0, vA G 0), (1, vI l1), (2, vI l2)] [] σ Q
  refine R_aload_n e_X12_farFrom_0.1 0 rfl ?_
  refine R_iload_n e_X12_farFrom_0.2.1 1 rfl ?_
  refine R_iconst e_X12_farFrom_0.2.2.1 ?_
  refine R_callV (mc := 0) (ms := 0) (mc' := 0) (ms' := 0) (M' := M_X12_of) (d' := 1) (as := [vI l1, vI 3]) (st := []) 12 2 e_X12_farFrom_0.2.2.2.1 (kCVof m_X12_of l_X12_268) rfl (by decide) km_0 (by decide) (by decide) rfl rfl (by show (0 : Nat) ≤ 8; decide) ?_
  obtain ⟨q5, h⟩ := h
  refine S_X12_of ⟨q5, ?_⟩
  refine R_eqs (st2 := [vI (σ 1 ((34 + (9 * l1)) + 3))]) (σ2 := σ) rfl rfl ?_
  refine R_aload_n e_X12_farFrom_0.2.2.2.2.1 0 rfl ?_
  refine R_getA 12 0 1 e_X12_farFrom_0.2.2.2.2.2.1 f_X12_7 km_0 (fun _ _ => rfl) rm_0_0 (by decide) ?_
  refine R_bipush e_X12_farFrom_0.2.2.2.2.2.2.1 (by decide) ?_
  refine R_iconst e_X12_farFrom_0.2.2.2.2.2.2.2.1 ?_
  refine R_iload_n e_X12_farFrom_0.2.2.2.2.2.2.2.2.1 2 rfl ?_
  refine R_imul e_X12_farFrom_0.2.2.2.2.2.2.2.2.2 ?_
  refine R_iadd e_X12_farFrom_1.1 ?_
  refine R_iconst e_X12_farFrom_1.2.1 ?_
  refine R_iadd e_X12_farFrom_1.2.2.1 ?_
  obtain ⟨q6, h⟩ := h
  refine R_iald 3598 e_X12_farFrom_1.2.2.2.1 kma_1 q6 ?_
  refine R_imul e_X12_farFrom_1.2.2.2.2.1 ?_
  refine R_iconst e_X12_farFrom_1.2.2.2.2.2.1 ?_
  obtain ⟨q7, h⟩ := h
  refine R_idiv e_X12_farFrom_1.2.2.2.2.2.2.1 q7 (by decide) ?_
  exact R_ireturn e_X12_farFrom_1.2.2.2.2.2.2.2 rfl h
/-! KiteLandModel.turned(II)I -/
theorem e_X12_turned_0 : decode cX12_turned 0 = .ok (.aload_n 0, 1) ∧ decode cX12_turned 1 = .ok (.getfield 7, 3) ∧ decode cX12_turned 4 = .ok (.bipush 10, 2) ∧ decode cX12_turned 6 = .ok (.iconst 2, 1) ∧ decode cX12_turned 7 = .ok (.iload_n 2, 1) ∧ decode cX12_turned 8 = .ok (.imul, 1) ∧ decode cX12_turned 9 = .ok (.iadd, 1) ∧ decode cX12_turned 10 = .ok (.iaload, 1) ∧ decode cX12_turned 11 = .ok (.aload_n 0, 1) ∧ decode cX12_turned 12 = .ok (.iload_n 1, 1) := by decide +kernel
theorem e_X12_turned_1 : decode cX12_turned 13 = .ok (.bipush 7, 2) ∧ decode cX12_turned 15 = .ok (.invokevirtual 268, 3) ∧ decode cX12_turned 18 = .ok (.iadd, 1) ∧ decode cX12_turned 19 = .ok (.bipush 8, 2) ∧ decode cX12_turned 21 = .ok (.irem, 1) ∧ decode cX12_turned 22 = .ok (.ireturn, 1) := by decide +kernel
theorem S_X12_turned {G : Kg} {σ : Kmem} {Q : Int → Kmem → Prop} {l1 l2 : Int}  (h : (0 ≤ 10 + (2 * l2) ∧ 10 + (2 * l2) < 3598) ∧ (0 ≤ (34 + (9 * l1)) + 7 ∧ (34 + (9 * l1)) + 7 < 3598) ∧ (0 ≤ (σ 1 (10 + (2 * l2))) + (σ 1 ((34 + (9 * l1)) + 7)) ∧ (σ 1 (10 + (2 * l2))) + (σ 1 ((34 + (9 * l1)) + 7)) ≤ 2147483647) ∧ Q (((σ 1 (10 + (2 * l2))) + (σ 1 ((34 + (9 * l1)) + 7))) % 8) σ) : Run G WM M_X12_turned 2 0 0 [vA G 0, vI l1, vI l2] σ Q := by
  refine Run.of (by decide +kernel) (by show (3 : Nat) ≤ 3; decide) ?_
  show Ex G WM M_X12_turned 2 0 0 0 [(0, vA G 0), (1, vI l1), (2, vI l2)] [] σ Q
  refine R_aload_n e_X12_turned_0.1 0 rfl ?_
  refine R_getA 12 0 1 e_X12_turned_0.2.1 f_X12_7 km_0 (fun _ _ => rfl) rm_0_0 (by decide) ?_
  refine R_bipush e_X12_turned_0.2.2.1 (by decide) ?_
  refine R_iconst e_X12_turned_0.2.2.2.1 ?_
  refine R_iload_n e_X12_turned_0.2.2.2.2.1 2 rfl ?_
  refine R_imul e_X12_turned_0.2.2.2.2.2.1 ?_
  refine R_iadd e_X12_turned_0.2.2.2.2.2.2.1 ?_
  obtain ⟨q1, h⟩ := h
  refine R_iald 3598 e_X12_turned_0.2.2.2.2.2.2.2.1 kma_1 q1 ?_
  refine R_aload_n e_X12_turned_0.2.2.2.2.2.2.2.2.1 0 rfl ?_
  refine R_iload_n e_X12_turned_0.2.2.2.2.2.2.2.2.2 1 rfl ?_
  refine R_bipush e_X12_turned_1.1 (by decide) ?_
  refine R_callV (mc := 0) (ms := 0) (mc' := 0) (ms' := 0) (M' := M_X12_of) (d' := 1) (as := [vI l1, vI 7]) (st := [vI (σ 1 (10 + (2 * l2)))]) 12 2 e_X12_turned_1.2.1 (kCVof m_X12_of l_X12_268) rfl (by decide) km_0 (by decide) (by decide) rfl rfl (by show (1 : Nat) ≤ 8; decide) ?_
  obtain ⟨q6, h⟩ := h
  refine S_X12_of ⟨q6, ?_⟩
  refine R_eqs (st2 := [vI (σ 1 ((34 + (9 * l1)) + 7)), vI (σ 1 (10 + (2 * l2)))]) (σ2 := σ) rfl rfl ?_
  refine R_iadd e_X12_turned_1.2.2.1 ?_
  refine R_bipush e_X12_turned_1.2.2.2.1 (by decide) ?_
  obtain ⟨q7, h⟩ := h
  refine R_irem e_X12_turned_1.2.2.2.2.1 q7 (by decide) ?_
  exact R_ireturn e_X12_turned_1.2.2.2.2.2 rfl h
/-! KiteLandModel.isCut(I)Z -/
theorem e_X12_isCut_0 : decode cX12_isCut 0 = .ok (.aload_n 0, 1) ∧ decode cX12_isCut 1 = .ok (.iload_n 1, 1) ∧ decode cX12_isCut 2 = .ok (.bipush 8, 2) ∧ decode cX12_isCut 4 = .ok (.invokevirtual 268, 3) ∧ decode cX12_isCut 7 = .ok (.iconst 1, 1) ∧ decode cX12_isCut 8 = .ok (.if_icmp .ne 7, 3) ∧ decode cX12_isCut 11 = .ok (.iconst 1, 1) ∧ decode cX12_isCut 12 = .ok (.goto 4, 3) ∧ decode cX12_isCut 15 = .ok (.iconst 0, 1) ∧ decode cX12_isCut 16 = .ok (.ireturn, 1) := by decide +kernel
theorem S_X12_isCut {G : Kg} {σ : Kmem} {Q : Int → Kmem → Prop} {l1 : Int}  (h : (0 ≤ (34 + (9 * l1)) + 8 ∧ (34 + (9 * l1)) + 8 < 3598) ∧ (rI (σ 1 ((34 + (9 * l1)) + 8))) ∧ ((σ 1 ((34 + (9 * l1)) + 8) ≠ 1 → Q 0 σ) ∧ (σ 1 ((34 + (9 * l1)) + 8) = 1 → Q 1 σ))) : Run G WM M_X12_isCut 2 0 0 [vA G 0, vI l1] σ Q := by
  refine Run.of (by decide +kernel) (by show (2 : Nat) ≤ 2; decide) ?_
  show Ex G WM M_X12_isCut 2 0 0 0 [(0, vA G 0), (1, vI l1)] [] σ Q
  refine R_aload_n e_X12_isCut_0.1 0 rfl ?_
  refine R_iload_n e_X12_isCut_0.2.1 1 rfl ?_
  refine R_bipush e_X12_isCut_0.2.2.1 (by decide) ?_
  refine R_callV (mc := 0) (ms := 0) (mc' := 0) (ms' := 0) (M' := M_X12_of) (d' := 1) (as := [vI l1, vI 8]) (st := []) 12 2 e_X12_isCut_0.2.2.2.1 (kCVof m_X12_of l_X12_268) rfl (by decide) km_0 (by decide) (by decide) rfl rfl (by show (0 : Nat) ≤ 8; decide) ?_
  obtain ⟨q5, h⟩ := h
  refine S_X12_of ⟨q5, ?_⟩
  refine R_eqs (st2 := [vI (σ 1 ((34 + (9 * l1)) + 8))]) (σ2 := σ) rfl rfl ?_
  refine R_iconst e_X12_isCut_0.2.2.2.2.1 ?_
  obtain ⟨q6, h⟩ := h
  refine R_icmp_ne 15 e_X12_isCut_0.2.2.2.2.2.1 (by decide) q6 (by decide) (fun q => ?_) (fun q => ?_)
  · replace h := h.1 q
    refine R_iconst e_X12_isCut_0.2.2.2.2.2.2.2.2.1 ?_
    exact R_zreturn e_X12_isCut_0.2.2.2.2.2.2.2.2.2 rfl (Or.inl rfl) h
  · replace h := h.2 q
    refine R_iconst e_X12_isCut_0.2.2.2.2.2.2.1 ?_
    refine R_goto 16 e_X12_isCut_0.2.2.2.2.2.2.2.1 (by decide) ?_
    exact R_zreturn e_X12_isCut_0.2.2.2.2.2.2.2.2.2 rfl (Or.inr rfl) h
/-! KiteLandModel.isBorne(II)Z -/
theorem e_X12_isBorne_0 : decode cX12_isBorne 0 = .ok (.aload_n 0, 1) ∧ decode cX12_isBorne 1 = .ok (.getfield 7, 3) ∧ decode cX12_isBorne 4 = .ok (.bipush 10, 2) ∧ decode cX12_isBorne 6 = .ok (.iconst 2, 1) ∧ decode cX12_isBorne 7 = .ok (.iload_n 2, 1) ∧ decode cX12_isBorne 8 = .ok (.imul, 1) ∧ decode cX12_isBorne 9 = .ok (.iadd, 1) ∧ decode cX12_isBorne 10 = .ok (.iconst 1, 1) ∧ decode cX12_isBorne 11 = .ok (.iadd, 1) ∧ decode cX12_isBorne 12 = .ok (.iaload, 1) := by decide +kernel
theorem e_X12_isBorne_1 : decode cX12_isBorne 13 = .ok (.aload_n 0, 1) ∧ decode cX12_isBorne 14 = .ok (.iload_n 1, 1) ∧ decode cX12_isBorne 15 = .ok (.iconst 4, 1) ∧ decode cX12_isBorne 16 = .ok (.invokevirtual 268, 3) ∧ decode cX12_isBorne 19 = .ok (.if_icmp .lt 7, 3) ∧ decode cX12_isBorne 22 = .ok (.iconst 1, 1) ∧ decode cX12_isBorne 23 = .ok (.goto 4, 3) ∧ decode cX12_isBorne 26 = .ok (.iconst 0, 1) ∧ decode cX12_isBorne 27 = .ok (.ireturn, 1) := by decide +kernel
theorem S_X12_isBorne {G : Kg} {σ : Kmem} {Q : Int → Kmem → Prop} {l1 l2 : Int}  (h : (0 ≤ (10 + (2 * l2)) + 1 ∧ (10 + (2 * l2)) + 1 < 3598) ∧ (0 ≤ (34 + (9 * l1)) + 4 ∧ (34 + (9 * l1)) + 4 < 3598) ∧ (rI (σ 1 ((10 + (2 * l2)) + 1))) ∧ (rI (σ 1 ((34 + (9 * l1)) + 4))) ∧ ((σ 1 ((10 + (2 * l2)) + 1) < σ 1 ((34 + (9 * l1)) + 4) → Q 0 σ) ∧ (σ 1 ((34 + (9 * l1)) + 4) ≤ σ 1 ((10 + (2 * l2)) + 1) → Q 1 σ))) : Run G WM M_X12_isBorne 2 0 0 [vA G 0, vI l1, vI l2] σ Q := by
  refine Run.of (by decide +kernel) (by show (3 : Nat) ≤ 3; decide) ?_
  show Ex G WM M_X12_isBorne 2 0 0 0 [(0, vA G 0), (1, vI l1), (2, vI l2)] [] σ Q
  refine R_aload_n e_X12_isBorne_0.1 0 rfl ?_
  refine R_getA 12 0 1 e_X12_isBorne_0.2.1 f_X12_7 km_0 (fun _ _ => rfl) rm_0_0 (by decide) ?_
  refine R_bipush e_X12_isBorne_0.2.2.1 (by decide) ?_
  refine R_iconst e_X12_isBorne_0.2.2.2.1 ?_
  refine R_iload_n e_X12_isBorne_0.2.2.2.2.1 2 rfl ?_
  refine R_imul e_X12_isBorne_0.2.2.2.2.2.1 ?_
  refine R_iadd e_X12_isBorne_0.2.2.2.2.2.2.1 ?_
  refine R_iconst e_X12_isBorne_0.2.2.2.2.2.2.2.1 ?_
  refine R_iadd e_X12_isBorne_0.2.2.2.2.2.2.2.2.1 ?_
  obtain ⟨q1, h⟩ := h
  refine R_iald 3598 e_X12_isBorne_0.2.2.2.2.2.2.2.2.2 kma_1 q1 ?_
  refine R_aload_n e_X12_isBorne_1.1 0 rfl ?_
  refine R_iload_n e_X12_isBorne_1.2.1 1 rfl ?_
  refine R_iconst e_X12_isBorne_1.2.2.1 ?_
  refine R_callV (mc := 0) (ms := 0) (mc' := 0) (ms' := 0) (M' := M_X12_of) (d' := 1) (as := [vI l1, vI 4]) (st := [vI (σ 1 ((10 + (2 * l2)) + 1))]) 12 2 e_X12_isBorne_1.2.2.2.1 (kCVof m_X12_of l_X12_268) rfl (by decide) km_0 (by decide) (by decide) rfl rfl (by show (1 : Nat) ≤ 8; decide) ?_
  obtain ⟨q6, h⟩ := h
  refine S_X12_of ⟨q6, ?_⟩
  refine R_eqs (st2 := [vI (σ 1 ((34 + (9 * l1)) + 4)), vI (σ 1 ((10 + (2 * l2)) + 1))]) (σ2 := σ) rfl rfl ?_
  obtain ⟨q7, h⟩ := h
  obtain ⟨q8, h⟩ := h
  refine R_icmp_lt 26 e_X12_isBorne_1.2.2.2.2.1 (by decide) q7 q8 (fun q => ?_) (fun q => ?_)
  · replace h := h.1 q
    refine R_iconst e_X12_isBorne_1.2.2.2.2.2.2.2.1 ?_
    exact R_zreturn e_X12_isBorne_1.2.2.2.2.2.2.2.2 rfl (Or.inl rfl) h
  · replace h := h.2 q
    refine R_iconst e_X12_isBorne_1.2.2.2.2.2.1 ?_
    refine R_goto 27 e_X12_isBorne_1.2.2.2.2.2.2.1 (by decide) ?_
    exact R_zreturn e_X12_isBorne_1.2.2.2.2.2.2.2.2 rfl (Or.inr rfl) h
