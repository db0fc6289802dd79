/-! KiteLand$County.hasLand()Z -/
theorem e_X0_hasLand_0 : decode cX0_hasLand 0 = .ok (.aload_n 0, 1) ∧ decode cX0_hasLand 1 = .ok (.getfield 9, 3) ∧ decode cX0_hasLand 4 = .ok (.ifCond .le 14, 3) ∧ decode cX0_hasLand 7 = .ok (.aload_n 0, 1) ∧ decode cX0_hasLand 8 = .ok (.getfield 15, 3) ∧ decode cX0_hasLand 11 = .ok (.ifCond .le 7, 3) ∧ decode cX0_hasLand 14 = .ok (.iconst 1, 1) ∧ decode cX0_hasLand 15 = .ok (.goto 4, 3) ∧ decode cX0_hasLand 18 = .ok (.iconst 0, 1) ∧ decode cX0_hasLand 19 = .ok (.ireturn, 1) := by decide +kernel
theorem S_X0_hasLand {G : Kg} {σ : Kmem} {Q : Int → Kmem → Prop} {c : Int} (hc : isC c) (h : (rI (σ c 0)) ∧ ((σ c 0 ≤ 0 → Q 0 σ) ∧ (0 < σ c 0 → (rI (σ c 1)) ∧ ((σ c 1 ≤ 0 → Q 0 σ) ∧ (0 < σ c 1 → Q 1 σ))))) : Run G WX M_X0_hasLand 0 0 0 [vA G c] σ Q := by
  refine Run.of (by decide +kernel) (by show (1 : Nat) ≤ 1; decide) ?_
  show Ex G WX M_X0_hasLand 0 0 0 0 [(0, vA G c)] [] σ Q
  refine R_aload_n e_X0_hasLand_0.1 0 rfl ?_
  refine R_getI 0 0 0 e_X0_hasLand_0.2.1 f_X0_9 (kC_self hc) (fun _ _ => rfl) rfl ?_
  obtain ⟨q1, h⟩ := h
  refine R_if_le 18 e_X0_hasLand_0.2.2.1 (by decide) q1  (fun q => ?_) (fun q => ?_)
  · replace h := h.1 q
    refine R_iconst e_X0_hasLand_0.2.2.2.2.2.2.2.2.1 ?_
    exact R_zreturn e_X0_hasLand_0.2.2.2.2.2.2.2.2.2 rfl (Or.inl rfl) h
  · replace h := h.2 q
    refine R_aload_n e_X0_hasLand_0.2.2.2.1 0 rfl ?_
    refine R_getI 0 1 1 e_X0_hasLand_0.2.2.2.2.1 f_X0_15 (kC_self hc) (fun _ _ => rfl) rfl ?_
    obtain ⟨q2, h⟩ := h
    refine R_if_le 18 e_X0_hasLand_0.2.2.2.2.2.1 (by decide) q2  (fun q => ?_) (fun q => ?_)
    · replace h := h.1 q
      refine R_iconst e_X0_hasLand_0.2.2.2.2.2.2.2.2.1 ?_
      exact R_zreturn e_X0_hasLand_0.2.2.2.2.2.2.2.2.2 rfl (Or.inl rfl) h
    · replace h := h.2 q
      refine R_iconst e_X0_hasLand_0.2.2.2.2.2.2.1 ?_
      refine R_goto 19 e_X0_hasLand_0.2.2.2.2.2.2.2.1 (by decide) ?_
      exact R_zreturn e_X0_hasLand_0.2.2.2.2.2.2.2.2.2 rfl (Or.inr rfl) h
/-! KiteLand$County.hasKite(I)Z -/
theorem e_X0_hasKite_0 : decode cX0_hasKite 0 = .ok (.iload_n 1, 1) ∧ decode cX0_hasKite 1 = .ok (.ifCond .lt 15, 3) ∧ decode cX0_hasKite 4 = .ok (.iload_n 1, 1) ∧ decode cX0_hasKite 5 = .ok (.aload_n 0, 1) ∧ decode cX0_hasKite 6 = .ok (.getfield 27, 3) ∧ decode cX0_hasKite 9 = .ok (.if_icmp .ge 7, 3) ∧ decode cX0_hasKite 12 = .ok (.iconst 1, 1) ∧ decode cX0_hasKite 13 = .ok (.goto 4, 3) ∧ decode cX0_hasKite 16 = .ok (.iconst 0, 1) ∧ decode cX0_hasKite 17 = .ok (.ireturn, 1) := by decide +kernel
theorem S_X0_hasKite {G : Kg} {σ : Kmem} {Q : Int → Kmem → Prop} {c l1 : Int} (hc : isC c) (h : (rI l1) ∧ ((l1 < 0 → Q 0 σ) ∧ (0 ≤ l1 → (rI (σ c 5)) ∧ ((σ c 5 ≤ l1 → Q 0 σ) ∧ (l1 < σ c 5 → Q 1 σ))))) : Run G WX M_X0_hasKite 0 0 0 [vA G c, vI l1] σ Q := by
  refine Run.of (by decide +kernel) (by show (2 : Nat) ≤ 2; decide) ?_
  show Ex G WX M_X0_hasKite 0 0 0 0 [(0, vA G c), (1, vI l1)] [] σ Q
  refine R_iload_n e_X0_hasKite_0.1 1 rfl ?_
  obtain ⟨q1, h⟩ := h
  refine R_if_lt 16 e_X0_hasKite_0.2.1 (by decide) q1  (fun q => ?_) (fun q => ?_)
  · replace h := h.1 q
    refine R_iconst e_X0_hasKite_0.2.2.2.2.2.2.2.2.1 ?_
    exact R_zreturn e_X0_hasKite_0.2.2.2.2.2.2.2.2.2 rfl (Or.inl rfl) h
  · replace h := h.2 q
    refine R_iload_n e_X0_hasKite_0.2.2.1 1 rfl ?_
    refine R_aload_n e_X0_hasKite_0.2.2.2.1 0 rfl ?_
    refine R_getI 0 5 5 e_X0_hasKite_0.2.2.2.2.1 f_X0_27 (kC_self hc) (fun _ _ => rfl) rfl ?_
    obtain ⟨q2, h⟩ := h
    refine R_icmp_ge 16 e_X0_hasKite_0.2.2.2.2.2.1 (by decide) q1 q2 (fun q => ?_) (fun q => ?_)
    · replace h := h.1 q
      refine R_iconst e_X0_hasKite_0.2.2.2.2.2.2.2.2.1 ?_
      exact R_zreturn e_X0_hasKite_0.2.2.2.2.2.2.2.2.2 rfl (Or.inl rfl) h
    · replace h := h.2 q
      refine R_iconst e_X0_hasKite_0.2.2.2.2.2.2.1 ?_
      refine R_goto 17 e_X0_hasKite_0.2.2.2.2.2.2.2.1 (by decide) ?_
      exact R_zreturn e_X0_hasKite_0.2.2.2.2.2.2.2.2.2 rfl (Or.inr rfl) h
/-! KiteLand$County.hasCrop(I)Z -/
theorem e_X0_hasCrop_0 : decode cX0_hasCrop 0 = .ok (.iload_n 1, 1) ∧ decode cX0_hasCrop 1 = .ok (.ifCond .lt 15, 3) ∧ decode cX0_hasCrop 4 = .ok (.iload_n 1, 1) ∧ decode cX0_hasCrop 5 = .ok (.aload_n 0, 1) ∧ decode cX0_hasCrop 6 = .ok (.getfield 30, 3) ∧ decode cX0_hasCrop 9 = .ok (.if_icmp .ge 7, 3) ∧ decode cX0_hasCrop 12 = .ok (.iconst 1, 1) ∧ decode cX0_hasCrop 13 = .ok (.goto 4, 3) ∧ decode cX0_hasCrop 16 = .ok (.iconst 0, 1) ∧ decode cX0_hasCrop 17 = .ok (.ireturn, 1) := by decide +kernel
theorem S_X0_hasCrop {G : Kg} {σ : Kmem} {Q : Int → Kmem → Prop} {c l1 : Int} (hc : isC c) (h : (rI l1) ∧ ((l1 < 0 → Q 0 σ) ∧ (0 ≤ l1 → (rI (σ c 6)) ∧ ((σ c 6 ≤ l1 → Q 0 σ) ∧ (l1 < σ c 6 → Q 1 σ))))) : Run G WX M_X0_hasCrop 0 0 0 [vA G c, vI l1] σ Q := by
  refine Run.of (by decide +kernel) (by show (2 : Nat) ≤ 2; decide) ?_
  show Ex G WX M_X0_hasCrop 0 0 0 0 [(0, vA G c), (1, vI l1)] [] σ Q
  refine R_iload_n e_X0_hasCrop_0.1 1 rfl ?_
  obtain ⟨q1, h⟩ := h
  refine R_if_lt 16 e_X0_hasCrop_0.2.1 (by decide) q1  (fun q => ?_) (fun q => ?_)
  · replace h := h.1 q
    refine R_iconst e_X0_hasCrop_0.2.2.2.2.2.2.2.2.1 ?_
    exact R_zreturn e_X0_hasCrop_0.2.2.2.2.2.2.2.2.2 rfl (Or.inl rfl) h
  · replace h := h.2 q
    refine R_iload_n e_X0_hasCrop_0.2.2.1 1 rfl ?_
    refine R_aload_n e_X0_hasCrop_0.2.2.2.1 0 rfl ?_
    refine R_getI 0 6 6 e_X0_hasCrop_0.2.2.2.2.1 f_X0_30 (kC_self hc) (fun _ _ => rfl) rfl ?_
    obtain ⟨q2, h⟩ := h
    refine R_icmp_ge 16 e_X0_hasCrop_0.2.2.2.2.2.1 (by decide) q1 q2 (fun q => ?_) (fun q => ?_)
    · replace h := h.1 q
      refine R_iconst e_X0_hasCrop_0.2.2.2.2.2.2.2.2.1 ?_
      exact R_zreturn e_X0_hasCrop_0.2.2.2.2.2.2.2.2.2 rfl (Or.inl rfl) h
    · replace h := h.2 q
      refine R_iconst e_X0_hasCrop_0.2.2.2.2.2.2.1 ?_
      refine R_goto 17 e_X0_hasCrop_0.2.2.2.2.2.2.2.1 (by decide) ?_
      exact R_zreturn e_X0_hasCrop_0.2.2.2.2.2.2.2.2.2 rfl (Or.inr rfl) h
/-! KiteLand$County.hasTenant(I)Z -/
theorem e_X0_hasTenant_0 : decode cX0_hasTenant 0 = .ok (.iload_n 1, 1) ∧ decode cX0_hasTenant 1 = .ok (.ifCond .lt 15, 3) ∧ decode cX0_hasTenant 4 = .ok (.iload_n 1, 1) ∧ decode cX0_hasTenant 5 = .ok (.aload_n 0, 1) ∧ decode cX0_hasTenant 6 = .ok (.getfield 33, 3) ∧ decode cX0_hasTenant 9 = .ok (.if_icmp .ge 7, 3) ∧ decode cX0_hasTenant 12 = .ok (.iconst 1, 1) ∧ decode cX0_hasTenant 13 = .ok (.goto 4, 3) ∧ decode cX0_hasTenant 16 = .ok (.iconst 0, 1) ∧ decode cX0_hasTenant 17 = .ok (.ireturn, 1) := by decide +kernel
theorem S_X0_hasTenant {G : Kg} {σ : Kmem} {Q : Int → Kmem → Prop} {c l1 : Int} (hc : isC c) (h : (rI l1) ∧ ((l1 < 0 → Q 0 σ) ∧ (0 ≤ l1 → (rI (σ c 7)) ∧ ((σ c 7 ≤ l1 → Q 0 σ) ∧ (l1 < σ c 7 → Q 1 σ))))) : Run G WX M_X0_hasTenant 0 0 0 [vA G c, vI l1] σ Q := by
  refine Run.of (by decide +kernel) (by show (2 : Nat) ≤ 2; decide) ?_
  show Ex G WX M_X0_hasTenant 0 0 0 0 [(0, vA G c), (1, vI l1)] [] σ Q
  refine R_iload_n e_X0_hasTenant_0.1 1 rfl ?_
  obtain ⟨q1, h⟩ := h
  refine R_if_lt 16 e_X0_hasTenant_0.2.1 (by decide) q1  (fun q => ?_) (fun q => ?_)
  · replace h := h.1 q
    refine R_iconst e_X0_hasTenant_0.2.2.2.2.2.2.2.2.1 ?_
    exact R_zreturn e_X0_hasTenant_0.2.2.2.2.2.2.2.2.2 rfl (Or.inl rfl) h
  · replace h := h.2 q
    refine R_iload_n e_X0_hasTenant_0.2.2.1 1 rfl ?_
    refine R_aload_n e_X0_hasTenant_0.2.2.2.1 0 rfl ?_
    refine R_getI 0 7 7 e_X0_hasTenant_0.2.2.2.2.1 f_X0_33 (kC_self hc) (fun _ _ => rfl) rfl ?_
    obtain ⟨q2, h⟩ := h
    refine R_icmp_ge 16 e_X0_hasTenant_0.2.2.2.2.2.1 (by decide) q1 q2 (fun q => ?_) (fun q => ?_)
    · replace h := h.1 q
      refine R_iconst e_X0_hasTenant_0.2.2.2.2.2.2.2.2.1 ?_
      exact R_zreturn e_X0_hasTenant_0.2.2.2.2.2.2.2.2.2 rfl (Or.inl rfl) h
    · replace h := h.2 q
      refine R_iconst e_X0_hasTenant_0.2.2.2.2.2.2.1 ?_
      refine R_goto 17 e_X0_hasTenant_0.2.2.2.2.2.2.2.1 (by decide) ?_
      exact R_zreturn e_X0_hasTenant_0.2.2.2.2.2.2.2.2.2 rfl (Or.inr rfl) h
/-! KiteLand$County.hasRow(I)Z -/
theorem e_X0_hasRow_0 : decode cX0_hasRow 0 = .ok (.iload_n 1, 1) ∧ decode cX0_hasRow 1 = .ok (.ifCond .lt 15, 3) ∧ decode cX0_hasRow 4 = .ok (.iload_n 1, 1) ∧ decode cX0_hasRow 5 = .ok (.aload_n 0, 1) ∧ decode cX0_hasRow 6 = .ok (.getfield 15, 3) ∧ decode cX0_hasRow 9 = .ok (.if_icmp .ge 7, 3) ∧ decode cX0_hasRow 12 = .ok (.iconst 1, 1) ∧ decode cX0_hasRow 13 = .ok (.goto 4, 3) ∧ decode cX0_hasRow 16 = .ok (.iconst 0, 1) ∧ decode cX0_hasRow 17 = .ok (.ireturn, 1) := by decide +kernel
theorem S_X0_hasRow {G : Kg} {σ : Kmem} {Q : Int → Kmem → Prop} {c l1 : Int} (hc : isC c) (h : (rI l1) ∧ ((l1 < 0 → Q 0 σ) ∧ (0 ≤ l1 → (rI (σ c 1)) ∧ ((σ c 1 ≤ l1 → Q 0 σ) ∧ (l1 < σ c 1 → Q 1 σ))))) : Run G WX M_X0_hasRow 0 0 0 [vA G c, vI l1] σ Q := by
  refine Run.of (by decide +kernel) (by show (2 : Nat) ≤ 2; decide) ?_
  show Ex G WX M_X0_hasRow 0 0 0 0 [(0, vA G c), (1, vI l1)] [] σ Q
  refine R_iload_n e_X0_hasRow_0.1 1 rfl ?_
  obtain ⟨q1, h⟩ := h
  refine R_if_lt 16 e_X0_hasRow_0.2.1 (by decide) q1  (fun q => ?_) (fun q => ?_)
  · replace h := h.1 q
    refine R_iconst e_X0_hasRow_0.2.2.2.2.2.2.2.2.1 ?_
    exact R_zreturn e_X0_hasRow_0.2.2.2.2.2.2.2.2.2 rfl (Or.inl rfl) h
  · replace h := h.2 q
    refine R_iload_n e_X0_hasRow_0.2.2.1 1 rfl ?_
    refine R_aload_n e_X0_hasRow_0.2.2.2.1 0 rfl ?_
    refine R_getI 0 1 1 e_X0_hasRow_0.2.2.2.2.1 f_X0_15 (kC_self hc) (fun _ _ => rfl) rfl ?_
    obtain ⟨q2, h⟩ := h
    refine R_icmp_ge 16 e_X0_hasRow_0.2.2.2.2.2.1 (by decide) q1 q2 (fun q => ?_) (fun q => ?_)
    · replace h := h.1 q
      refine R_iconst e_X0_hasRow_0.2.2.2.2.2.2.2.2.1 ?_
      exact R_zreturn e_X0_hasRow_0.2.2.2.2.2.2.2.2.2 rfl (Or.inl rfl) h
    · replace h := h.2 q
      refine R_iconst e_X0_hasRow_0.2.2.2.2.2.2.1 ?_
      refine R_goto 17 e_X0_hasRow_0.2.2.2.2.2.2.2.1 (by decide) ?_
      exact R_zreturn e_X0_hasRow_0.2.2.2.2.2.2.2.2.2 rfl (Or.inr rfl) h
/-! KiteLand$County.hasField(II)Z -/
theorem e_X0_hasField_0 : decode cX0_hasField 0 = .ok (.iload_n 1, 1) ∧ decode cX0_hasField 1 = .ok (.ifCond .lt 23, 3) ∧ decode cX0_hasField 4 = .ok (.iload_n 1, 1) ∧ decode cX0_hasField 5 = .ok (.aload_n 0, 1) ∧ decode cX0_hasField 6 = .ok (.getfield 9, 3) ∧ decode cX0_hasField 9 = .ok (.if_icmp .ge 15, 3) ∧ decode cX0_hasField 12 = .ok (.aload_n 0, 1) ∧ decode cX0_hasField 13 = .ok (.iload_n 2, 1) ∧ decode cX0_hasField 14 = .ok (.invokevirtual 83, 3) ∧ decode cX0_hasField 17 = .ok (.ifCond .eq 7, 3) := by decide +kernel
theorem e_X0_hasField_1 : decode cX0_hasField 20 = .ok (.iconst 1, 1) ∧ decode cX0_hasField 21 = .ok (.goto 4, 3) ∧ decode cX0_hasField 24 = .ok (.iconst 0, 1) ∧ decode cX0_hasField 25 = .ok (.ireturn, 1) := by decide +kernel
theorem S_X0_hasField {G : Kg} {σ : Kmem} {Q : Int → Kmem → Prop} {c l1 l2 : Int} (hc : isC c) (h : (rI l1) ∧ ((l1 < 0 → Q 0 σ) ∧ (0 ≤ l1 → (rI (σ c 0)) ∧ ((σ c 0 ≤ l1 → Q 0 σ) ∧ (l1 < σ c 0 → Run G WX M_X0_hasRow 0 0 0 [vA G c, vI l2] σ (fun r3 s4 => (rI r3) ∧ ((r3 = 0 → Q 0 s4) ∧ (r3 ≠ 0 → Q 1 s4)))))))) : Run G WX M_X0_hasField 1 0 0 [vA G c, vI l1, vI l2] σ Q := by
  refine Run.of (by decide +kernel) (by show (3 : Nat) ≤ 3; decide) ?_
  show Ex G WX M_X0_hasField 1 0 0 0 [(0, vA G c), (1, vI l1), (2, vI l2)] [] σ Q
  refine R_iload_n e_X0_hasField_0.1 1 rfl ?_
  obtain ⟨q1, h⟩ := h
  refine R_if_lt 24 e_X0_hasField_0.2.1 (by decide) q1  (fun q => ?_) (fun q => ?_)
  · replace h := h.1 q
    refine R_iconst e_X0_hasField_1.2.2.1 ?_
    exact R_zreturn e_X0_hasField_1.2.2.2 rfl (Or.inl rfl) h
  · replace h := h.2 q
    refine R_iload_n e_X0_hasField_0.2.2.1 1 rfl ?_
    refine R_aload_n e_X0_hasField_0.2.2.2.1 0 rfl ?_
    refine R_getI 0 0 0 e_X0_hasField_0.2.2.2.2.1 f_X0_9 (kC_self hc) (fun _ _ => rfl) rfl ?_
    obtain ⟨q2, h⟩ := h
    refine R_icmp_ge 24 e_X0_hasField_0.2.2.2.2.2.1 (by decide) q1 q2 (fun q => ?_) (fun q => ?_)
    · replace h := h.1 q
      refine R_iconst e_X0_hasField_1.2.2.1 ?_
      exact R_zreturn e_X0_hasField_1.2.2.2 rfl (Or.inl rfl) h
    · replace h := h.2 q
      refine R_aload_n e_X0_hasField_0.2.2.2.2.2.2.1 0 rfl ?_
      refine R_iload_n e_X0_hasField_0.2.2.2.2.2.2.2.1 2 rfl ?_
      refine R_callV (mc := 0) (ms := 0) (mc' := 0) (ms' := 0) (M' := M_X0_hasRow) (d' := 0) (as := [vI l2]) (st := []) 0 1 e_X0_hasField_0.2.2.2.2.2.2.2.2.1 (kCVof m_X0_hasRow l_X0_83) rfl (by decide) (kC_self hc) (by decide) (by decide) rfl rfl (by show (0 : Nat) ≤ 8; decide) ?_
      refine Run.mono h (fun r3 s4 h => ?_)
      refine R_eqs (st2 := [vI r3]) rfl rfl ?_
      obtain ⟨q5, h⟩ := h
      refine R_if_eq 24 e_X0_hasField_0.2.2.2.2.2.2.2.2.2 (by decide) q5  (fun q => ?_) (fun q => ?_)
      · replace h := h.1 q
        refine R_iconst e_X0_hasField_1.2.2.1 ?_
        exact R_zreturn e_X0_hasField_1.2.2.2 rfl (Or.inl rfl) h
      · replace h := h.2 q
        refine R_iconst e_X0_hasField_1.1 ?_
        refine R_goto 25 e_X0_hasField_1.2.1 (by decide) ?_
        exact R_zreturn e_X0_hasField_1.2.2.2 rfl (Or.inr rfl) h
/-! KiteLand$County.hourOfDay()I -/
theorem e_X0_hourOfDay_0 : decode cX0_hourOfDay 0 = .ok (.aload_n 0, 1) ∧ decode cX0_hourOfDay 1 = .ok (.getfield 24, 3) ∧ decode cX0_hourOfDay 4 = .ok (.bipush 12, 2) ∧ decode cX0_hourOfDay 6 = .ok (.irem, 1) ∧ decode cX0_hourOfDay 7 = .ok (.ireturn, 1) := by decide +kernel
theorem S_X0_hourOfDay {G : Kg} {σ : Kmem} {Q : Int → Kmem → Prop} {c : Int} (hc : isC c) (h : (0 ≤ σ c 4 ∧ σ c 4 ≤ 2147483647) ∧ Q ((σ c 4) % 12) σ) : Run G WX M_X0_hourOfDay 0 0 0 [vA G c] σ Q := by
  refine Run.of (by decide +kernel) (by show (1 : Nat) ≤ 1; decide) ?_
  show Ex G WX M_X0_hourOfDay 0 0 0 0 [(0, vA G c)] [] σ Q
  refine R_aload_n e_X0_hourOfDay_0.1 0 rfl ?_
  refine R_getI 0 4 4 e_X0_hourOfDay_0.2.1 f_X0_24 (kC_self hc) (fun _ _ => rfl) rfl ?_
  refine R_bipush e_X0_hourOfDay_0.2.2.1 (by decide) ?_
  obtain ⟨q1, h⟩ := h
  refine R_irem e_X0_hourOfDay_0.2.2.2.1 q1 (by decide) ?_
  exact R_ireturn e_X0_hourOfDay_0.2.2.2.2 rfl h
/-! KiteLand$Kite.earn(I)V -/
theorem e_X3_earn_0 : decode cX3_earn 0 = .ok (.aload_n 0, 1) ∧ decode cX3_earn 1 = .ok (.sipush 9999, 3) ∧ decode cX3_earn 4 = .ok (.aload_n 0, 1) ∧ decode cX3_earn 5 = .ok (.getfield 34, 3) ∧ decode cX3_earn 8 = .ok (.iload_n 1, 1) ∧ decode cX3_earn 9 = .ok (.iadd, 1) ∧ decode cX3_earn 10 = .ok (.invokestatic 44, 3) ∧ decode cX3_earn 13 = .ok (.putfield 34, 3) ∧ decode cX3_earn 16 = .ok (.return_, 1) := by decide +kernel
theorem S_X3_earn {G : Kg} {σ : Kmem} {Q : Int → Kmem → Prop} {a l1 : Int} (ha : kIsX a 3) (h : (rI (9999) ∧ rI (((σ a 7) + l1))) ∧ Q 0 (kup σ a 7 (min (9999) (((σ a 7) + l1))))) : Run G WX M_X3_earn 1 0 0 [vA G a, vI l1] σ Q := by
  refine Run.of (by decide +kernel) (by show (2 : Nat) ≤ 2; decide) ?_
  show Ex G WX M_X3_earn 1 0 0 0 [(0, vA G a), (1, vI l1)] [] σ Q
  refine R_aload_n e_X3_earn_0.1 0 rfl ?_
  refine R_sipush e_X3_earn_0.2.1 (by decide) ?_
  refine R_aload_n e_X3_earn_0.2.2.1 0 rfl ?_
  refine R_getI 3 7 7 e_X3_earn_0.2.2.2.1 f_X3_34 (kLX ha) (fun _ _ => rfl) rfl ?_
  refine R_iload_n e_X3_earn_0.2.2.2.2.1 1 rfl ?_
  refine R_iadd e_X3_earn_0.2.2.2.2.2.1 ?_
  obtain ⟨q3, h⟩ := h
  refine R_callS (mc := 0) (ms := 0) (mc' := 0) (ms' := 0) (M' := M_J9_min_7cf53) (d' := 0) (as := [vI 9999, vI ((σ a 7) + l1)]) (st := [vA G a]) 2 e_X3_earn_0.2.2.2.2.2.2.1 (kCSof m_J9_min_7cf53 l_X3_44) (by decide) (by decide) rfl rfl (by show (1 : Nat) ≤ 8; decide) ?_
  refine Run.mono (P_J9_min_7cf53 q3) (fun r s e => ?_)
  obtain ⟨e1, e2⟩ := e
  refine R_eqs (st2 := [vI (min (9999) (((σ a 7) + l1))), vA G a]) (σ2 := σ) (by rw [e1]; rfl) e2 ?_
  refine R_putI 3 7 7 WX_ok e_X3_earn_0.2.2.2.2.2.2.2.1 f_X3_34 (kLX ha) rfl rfl rfl ?_
  exact R_return e_X3_earn_0.2.2.2.2.2.2.2.2 rfl h
/-! KiteLand$Crop.isRipe()Z -/
theorem e_X2_isRipe_0 : decode cX2_isRipe 0 = .ok (.aload_n 0, 1) ∧ decode cX2_isRipe 1 = .ok (.getfield 25, 3) ∧ decode cX2_isRipe 4 = .ok (.aload_n 0, 1) ∧ decode cX2_isRipe 5 = .ok (.getfield 22, 3) ∧ decode cX2_isRipe 8 = .ok (.if_icmp .lt 7, 3) ∧ decode cX2_isRipe 11 = .ok (.iconst 1, 1) ∧ decode cX2_isRipe 12 = .ok (.goto 4, 3) ∧ decode cX2_isRipe 15 = .ok (.iconst 0, 1) ∧ decode cX2_isRipe 16 = .ok (.ireturn, 1) := by decide +kernel
theorem S_X2_isRipe {G : Kg} {σ : Kmem} {Q : Int → Kmem → Prop} {a : Int} (ha : kIsX a 2) (h : (rI (σ a 4)) ∧ (rI (σ a 3)) ∧ ((σ a 4 < σ a 3 → Q 0 σ) ∧ (σ a 3 ≤ σ a 4 → Q 1 σ))) : Run G WX M_X2_isRipe 0 0 0 [vA G a] σ Q := by
  refine Run.of (by decide +kernel) (by show (1 : Nat) ≤ 1; decide) ?_
  show Ex G WX M_X2_isRipe 0 0 0 0 [(0, vA G a)] [] σ Q
  refine R_aload_n e_X2_isRipe_0.1 0 rfl ?_
  refine R_getI 2 4 4 e_X2_isRipe_0.2.1 f_X2_25 (kLX ha) (fun _ _ => rfl) rfl ?_
  refine R_aload_n e_X2_isRipe_0.2.2.1 0 rfl ?_
  refine R_getI 2 3 3 e_X2_isRipe_0.2.2.2.1 f_X2_22 (kLX ha) (fun _ _ => rfl) rfl ?_
  obtain ⟨q1, h⟩ := h
  obtain ⟨q2, h⟩ := h
  refine R_icmp_lt 15 e_X2_isRipe_0.2.2.2.2.1 (by decide) q1 q2 (fun q => ?_) (fun q => ?_)
  · replace h := h.1 q
    refine R_iconst e_X2_isRipe_0.2.2.2.2.2.2.2.1 ?_
    exact R_zreturn e_X2_isRipe_0.2.2.2.2.2.2.2.2 rfl (Or.inl rfl) h
  · replace h := h.2 q
    refine R_iconst e_X2_isRipe_0.2.2.2.2.2.1 ?_
    refine R_goto 16 e_X2_isRipe_0.2.2.2.2.2.2.1 (by decide) ?_
    exact R_zreturn e_X2_isRipe_0.2.2.2.2.2.2.2.2 rfl (Or.inr rfl) h
/-! KiteLand$Crop.grow()V -/
theorem e_X2_grow_0 : decode cX2_grow 0 = .ok (.aload_n 0, 1) ∧ decode cX2_grow 1 = .ok (.bipush 99, 2) ∧ decode cX2_grow 3 = .ok (.aload_n 0, 1) ∧ decode cX2_grow 4 = .ok (.getfield 25, 3) ∧ decode cX2_grow 7 = .ok (.iconst 1, 1) ∧ decode cX2_grow 8 = .ok (.iadd, 1) ∧ decode cX2_grow 9 = .ok (.invokestatic 28, 3) ∧ decode cX2_grow 12 = .ok (.putfield 25, 3) ∧ decode cX2_grow 15 = .ok (.return_, 1) := by decide +kernel
theorem S_X2_grow {G : Kg} {σ : Kmem} {Q : Int → Kmem → Prop} {a : Int} (ha : kIsX a 2) (h : (rI (99) ∧ rI (((σ a 4) + 1))) ∧ Q 0 (kup σ a 4 (min (99) (((σ a 4) + 1))))) : Run G WX M_X2_grow 1 0 0 [vA G a] σ Q := by
  refine Run.of (by decide +kernel) (by show (1 : Nat) ≤ 1; decide) ?_
  show Ex G WX M_X2_grow 1 0 0 0 [(0, vA G a)] [] σ Q
  refine R_aload_n e_X2_grow_0.1 0 rfl ?_
  refine R_bipush e_X2_grow_0.2.1 (by decide) ?_
  refine R_aload_n e_X2_grow_0.2.2.1 0 rfl ?_
  refine R_getI 2 4 4 e_X2_grow_0.2.2.2.1 f_X2_25 (kLX ha) (fun _ _ => rfl) rfl ?_
  refine R_iconst e_X2_grow_0.2.2.2.2.1 ?_
  refine R_iadd e_X2_grow_0.2.2.2.2.2.1 ?_
  obtain ⟨q3, h⟩ := h
  refine R_callS (mc := 0) (ms := 0) (mc' := 0) (ms' := 0) (M' := M_J9_min_7cf53) (d' := 0) (as := [vI 99, vI ((σ a 4) + 1)]) (st := [vA G a]) 2 e_X2_grow_0.2.2.2.2.2.2.1 (kCSof m_J9_min_7cf53 l_X2_28) (by decide) (by decide) rfl rfl (by show (1 : Nat) ≤ 8; decide) ?_
  refine Run.mono (P_J9_min_7cf53 q3) (fun r s e => ?_)
  obtain ⟨e1, e2⟩ := e
  refine R_eqs (st2 := [vI (min (99) (((σ a 4) + 1))), vA G a]) (σ2 := σ) (by rw [e1]; rfl) e2 ?_
  refine R_putI 2 4 4 WX_ok e_X2_grow_0.2.2.2.2.2.2.2.1 f_X2_25 (kLX ha) rfl rfl rfl ?_
  exact R_return e_X2_grow_0.2.2.2.2.2.2.2.2 rfl h
/-! KiteLand$Tenant.stepsTo(II)I -/
theorem e_X9_stepsTo_0 : decode cX9_stepsTo 0 = .ok (.iload_n 1, 1) ∧ decode cX9_stepsTo 1 = .ok (.aload_n 0, 1) ∧ decode cX9_stepsTo 2 = .ok (.getfield 13, 3) ∧ decode cX9_stepsTo 5 = .ok (.isub, 1) ∧ decode cX9_stepsTo 6 = .ok (.invokestatic 29, 3) ∧ decode cX9_stepsTo 9 = .ok (.iload_n 2, 1) ∧ decode cX9_stepsTo 10 = .ok (.aload_n 0, 1) ∧ decode cX9_stepsTo 11 = .ok (.getfield 17, 3) ∧ decode cX9_stepsTo 14 = .ok (.isub, 1) ∧ decode cX9_stepsTo 15 = .ok (.invokestatic 29, 3) := by decide +kernel
theorem e_X9_stepsTo_1 : decode cX9_stepsTo 18 = .ok (.iadd, 1) ∧ decode cX9_stepsTo 19 = .ok (.ireturn, 1) := by decide +kernel
theorem S_X9_stepsTo {G : Kg} {σ : Kmem} {Q : Int → Kmem → Prop} {a l1 l2 : Int} (ha : kIsX a 9) (h : (rI ((l1 - (σ a 1))) ∧ (l1 - (σ a 1)) ≠ -2147483648) ∧ (rI ((l2 - (σ a 2))) ∧ (l2 - (σ a 2)) ≠ -2147483648) ∧ Q ((kabs ((l1 - (σ a 1)))) + (kabs ((l2 - (σ a 2))))) σ) : Run G WX M_X9_stepsTo 1 0 0 [vA G a, vI l1, vI l2] σ Q := by
  refine Run.of (by decide +kernel) (by show (3 : Nat) ≤ 3; decide) ?_
  show Ex G WX M_X9_stepsTo 1 0 0 0 [(0, vA G a), (1, vI l1), (2, vI l2)] [] σ Q
  refine R_iload_n e_X9_stepsTo_0.1 1 rfl ?_
  refine R_aload_n e_X9_stepsTo_0.2.1 0 rfl ?_
  refine R_getI 9 1 1 e_X9_stepsTo_0.2.2.1 f_X9_13 (kLX ha) (fun _ _ => rfl) rfl ?_
  refine R_isub e_X9_stepsTo_0.2.2.2.1 ?_
  obtain ⟨q3, h⟩ := h
  refine R_callS (mc := 0) (ms := 0) (mc' := 0) (ms' := 0) (M' := M_J9_abs_0f7a4) (d' := 0) (as := [vI (l1 - (σ a 1))]) (st := []) 1 e_X9_stepsTo_0.2.2.2.2.1 (kCSof m_J9_abs_0f7a4 l_X9_29) (by decide) (by decide) rfl rfl (by show (0 : Nat) ≤ 8; decide) ?_
  refine Run.mono (P_J9_abs_0f7a4 q3) (fun r s e => ?_)
  obtain ⟨e1, e2⟩ := e
  refine R_eqs (st2 := [vI (kabs ((l1 - (σ a 1))))]) (σ2 := σ) (by rw [e1]; rfl) e2 ?_
  refine R_iload_n e_X9_stepsTo_0.2.2.2.2.2.1 2 rfl ?_
  refine R_aload_n e_X9_stepsTo_0.2.2.2.2.2.2.1 0 rfl ?_
  refine R_getI 9 2 2 e_X9_stepsTo_0.2.2.2.2.2.2.2.1 f_X9_17 (kLX ha) (fun _ _ => rfl) rfl ?_
  refine R_isub e_X9_stepsTo_0.2.2.2.2.2.2.2.2.1 ?_
  obtain ⟨q6, h⟩ := h
  refine R_callS (mc := 0) (ms := 0) (mc' := 0) (ms' := 0) (M' := M_J9_abs_0f7a4) (d' := 0) (as := [vI (l2 - (σ a 2))]) (st := [vI (kabs ((l1 - (σ a 1))))]) 1 e_X9_stepsTo_0.2.2.2.2.2.2.2.2.2 (kCSof m_J9_abs_0f7a4 l_X9_29) (by decide) (by decide) rfl rfl (by show (1 : Nat) ≤ 8; decide) ?_
  refine Run.mono (P_J9_abs_0f7a4 q6) (fun r s e => ?_)
  obtain ⟨e1, e2⟩ := e
  refine R_eqs (st2 := [vI (kabs ((l2 - (σ a 2)))), vI (kabs ((l1 - (σ a 1))))]) (σ2 := σ) (by rw [e1]; rfl) e2 ?_
  refine R_iadd e_X9_stepsTo_1.1 ?_
  exact R_ireturn e_X9_stepsTo_1.2 rfl h
/-! KiteLand$Tenant.stepTowards(II)V -/
theorem e_X9_stepTowards_0 : decode cX9_stepTowards 0 = .ok (.iload_n 1, 1) ∧ decode cX9_stepTowards 1 = .ok (.aload_n 0, 1) ∧ decode cX9_stepTowards 2 = .ok (.getfield 13, 3) ∧ decode cX9_stepTowards 5 = .ok (.if_icmp .eq 28, 3) ∧ decode cX9_stepTowards 8 = .ok (.aload_n 0, 1) ∧ decode cX9_stepTowards 9 = .ok (.dup, 1) ∧ decode cX9_stepTowards 10 = .ok (.getfield 13, 3) ∧ decode cX9_stepTowards 13 = .ok (.iload_n 1, 1) ∧ decode cX9_stepTowards 14 = .ok (.aload_n 0, 1) ∧ decode cX9_stepTowards 15 = .ok (.getfield 13, 3) := by decide +kernel
theorem e_X9_stepTowards_1 : decode cX9_stepTowards 18 = .ok (.if_icmp .le 7, 3) ∧ decode cX9_stepTowards 21 = .ok (.iconst 1, 1) ∧ decode cX9_stepTowards 22 = .ok (.goto 4, 3) ∧ decode cX9_stepTowards 25 = .ok (.iconst (-1), 1) ∧ decode cX9_stepTowards 26 = .ok (.iadd, 1) ∧ decode cX9_stepTowards 27 = .ok (.putfield 13, 3) ∧ decode cX9_stepTowards 30 = .ok (.goto 33, 3) ∧ decode cX9_stepTowards 33 = .ok (.iload_n 2, 1) ∧ decode cX9_stepTowards 34 = .ok (.aload_n 0, 1) ∧ decode cX9_stepTowards 35 = .ok (.getfield 17, 3) := by decide +kernel
theorem e_X9_stepTowards_2 : decode cX9_stepTowards 38 = .ok (.if_icmp .eq 25, 3) ∧ decode cX9_stepTowards 41 = .ok (.aload_n 0, 1) ∧ decode cX9_stepTowards 42 = .ok (.dup, 1) ∧ decode cX9_stepTowards 43 = .ok (.getfield 17, 3) ∧ decode cX9_stepTowards 46 = .ok (.iload_n 2, 1) ∧ decode cX9_stepTowards 47 = .ok (.aload_n 0, 1) ∧ decode cX9_stepTowards 48 = .ok (.getfield 17, 3) ∧ decode cX9_stepTowards 51 = .ok (.if_icmp .le 7, 3) ∧ decode cX9_stepTowards 54 = .ok (.iconst 1, 1) ∧ decode cX9_stepTowards 55 = .ok (.goto 4, 3) := by decide +kernel
theorem e_X9_stepTowards_3 : decode cX9_stepTowards 58 = .ok (.iconst (-1), 1) ∧ decode cX9_stepTowards 59 = .ok (.iadd, 1) ∧ decode cX9_stepTowards 60 = .ok (.putfield 17, 3) ∧ decode cX9_stepTowards 63 = .ok (.return_, 1) := by decide +kernel
theorem S_X9_stepTowards {G : Kg} {σ : Kmem} {Q : Int → Kmem → Prop} {a l1 l2 : Int} (ha : kIsX a 9) (h : (rI l1) ∧ (rI (σ a 1)) ∧ ((l1 = σ a 1 → (rI l2) ∧ (rI (σ a 2)) ∧ ((l2 = σ a 2 → Q 0 σ) ∧ (l2 ≠ σ a 2 → ((l2 ≤ σ a 2 → Q 0 (kup σ a 2 ((σ a 2) + (-1)))) ∧ (σ a 2 < l2 → Q 0 (kup σ a 2 ((σ a 2) + 1))))))) ∧ (l1 ≠ σ a 1 → ((l1 ≤ σ a 1 → Q 0 (kup σ a 1 ((σ a 1) + (-1)))) ∧ (σ a 1 < l1 → Q 0 (kup σ a 1 ((σ a 1) + 1))))))) : Run G WX M_X9_stepTowards 0 0 0 [vA G a, vI l1, vI l2] σ Q := by
  refine Run.of (by decide +kernel) (by show (3 : Nat) ≤ 3; decide) ?_
  show Ex G WX M_X9_stepTowards 0 0 0 0 [(0, vA G a), (1, vI l1), (2, vI l2)] [] σ Q
  refine R_iload_n e_X9_stepTowards_0.1 1 rfl ?_
  refine R_aload_n e_X9_stepTowards_0.2.1 0 rfl ?_
  refine R_getI 9 1 1 e_X9_stepTowards_0.2.2.1 f_X9_13 (kLX ha) (fun _ _ => rfl) rfl ?_
  obtain ⟨q1, h⟩ := h
  obtain ⟨q2, h⟩ := h
  refine R_icmp_eq 33 e_X9_stepTowards_0.2.2.2.1 (by decide) q1 q2 (fun q => ?_) (fun q => ?_)
  · replace h := h.1 q
    refine R_iload_n e_X9_stepTowards_1.2.2.2.2.2.2.2.1 2 rfl ?_
    refine R_aload_n e_X9_stepTowards_1.2.2.2.2.2.2.2.2.1 0 rfl ?_
    refine R_getI 9 2 2 e_X9_stepTowards_1.2.2.2.2.2.2.2.2.2 f_X9_17 (kLX ha) (fun _ _ => rfl) rfl ?_
    obtain ⟨q3, h⟩ := h
    obtain ⟨q4, h⟩ := h
    refine R_icmp_eq 63 e_X9_stepTowards_2.1 (by decide) q3 q4 (fun q => ?_) (fun q => ?_)
    · replace h := h.1 q
      exact R_return e_X9_stepTowards_3.2.2.2 rfl h
    · replace h := h.2 q
      refine R_aload_n e_X9_stepTowards_2.2.1 0 rfl ?_
      refine R_dup e_X9_stepTowards_2.2.2.1 rfl ?_
      refine R_getI 9 2 2 e_X9_stepTowards_2.2.2.2.1 f_X9_17 (kLX ha) (fun _ _ => rfl) rfl ?_
      refine R_iload_n e_X9_stepTowards_2.2.2.2.2.1 2 rfl ?_
      refine R_aload_n e_X9_stepTowards_2.2.2.2.2.2.1 0 rfl ?_
      refine R_getI 9 2 2 e_X9_stepTowards_2.2.2.2.2.2.2.1 f_X9_17 (kLX ha) (fun _ _ => rfl) rfl ?_
      refine R_icmp_le 58 e_X9_stepTowards_2.2.2.2.2.2.2.2.1 (by decide) q3 q4 (fun q => ?_) (fun q => ?_)
      · replace h := h.1 q
        refine R_iconst e_X9_stepTowards_3.1 ?_
        refine R_iadd e_X9_stepTowards_3.2.1 ?_
        refine R_putI 9 2 2 WX_ok e_X9_stepTowards_3.2.2.1 f_X9_17 (kLX ha) rfl rfl rfl ?_
        exact R_return e_X9_stepTowards_3.2.2.2 rfl h
      · replace h := h.2 q
        refine R_iconst e_X9_stepTowards_2.2.2.2.2.2.2.2.2.1 ?_
        refine R_goto 59 e_X9_stepTowards_2.2.2.2.2.2.2.2.2.2 (by decide) ?_
        refine R_iadd e_X9_stepTowards_3.2.1 ?_
        refine R_putI 9 2 2 WX_ok e_X9_stepTowards_3.2.2.1 f_X9_17 (kLX ha) rfl rfl rfl ?_
        exact R_return e_X9_stepTowards_3.2.2.2 rfl h
  · replace h := h.2 q
    refine R_aload_n e_X9_stepTowards_0.2.2.2.2.1 0 rfl ?_
    refine R_dup e_X9_stepTowards_0.2.2.2.2.2.1 rfl ?_
    refine R_getI 9 1 1 e_X9_stepTowards_0.2.2.2.2.2.2.1 f_X9_13 (kLX ha) (fun _ _ => rfl) rfl ?_
    refine R_iload_n e_X9_stepTowards_0.2.2.2.2.2.2.2.1 1 rfl ?_
    refine R_aload_n e_X9_stepTowards_0.2.2.2.2.2.2.2.2.1 0 rfl ?_
    refine R_getI 9 1 1 e_X9_stepTowards_0.2.2.2.2.2.2.2.2.2 f_X9_13 (kLX ha) (fun _ _ => rfl) rfl ?_
    refine R_icmp_le 25 e_X9_stepTowards_1.1 (by decide) q1 q2 (fun q => ?_) (fun q => ?_)
    · replace h := h.1 q
      refine R_iconst e_X9_stepTowards_1.2.2.2.1 ?_
      refine R_iadd e_X9_stepTowards_1.2.2.2.2.1 ?_
      refine R_putI 9 1 1 WX_ok e_X9_stepTowards_1.2.2.2.2.2.1 f_X9_13 (kLX ha) rfl rfl rfl ?_
      refine R_goto 63 e_X9_stepTowards_1.2.2.2.2.2.2.1 (by decide) ?_
      exact R_return e_X9_stepTowards_3.2.2.2 rfl h
    · replace h := h.2 q
      refine R_iconst e_X9_stepTowards_1.2.1 ?_
      refine R_goto 26 e_X9_stepTowards_1.2.2.1 (by decide) ?_
      refine R_iadd e_X9_stepTowards_1.2.2.2.2.1 ?_
      refine R_putI 9 1 1 WX_ok e_X9_stepTowards_1.2.2.2.2.2.1 f_X9_13 (kLX ha) rfl rfl rfl ?_
      refine R_goto 63 e_X9_stepTowards_1.2.2.2.2.2.2.1 (by decide) ?_
      exact R_return e_X9_stepTowards_3.2.2.2 rfl h
/-! KiteLand$County.cutSet()I -/
theorem e_X0_cutSet_0 : decode cX0_cutSet 0 = .ok (.iconst 0, 1) ∧ decode cX0_cutSet 1 = .ok (.istore_n 1, 1) ∧ decode cX0_cutSet 2 = .ok (.iconst 0, 1) ∧ decode cX0_cutSet 3 = .ok (.istore_n 2, 1) ∧ decode cX0_cutSet 4 = .ok (.iload_n 2, 1) ∧ decode cX0_cutSet 5 = .ok (.aload_n 0, 1) ∧ decode cX0_cutSet 6 = .ok (.getfield 27, 3) ∧ decode cX0_cutSet 9 = .ok (.if_icmp .ge 27, 3) ∧ decode cX0_cutSet 12 = .ok (.aload_n 0, 1) ∧ decode cX0_cutSet 13 = .ok (.getfield 45, 3) := by decide +kernel
theorem e_X0_cutSet_1 : decode cX0_cutSet 16 = .ok (.iload_n 2, 1) ∧ decode cX0_cutSet 17 = .ok (.aaload, 1) ∧ decode cX0_cutSet 18 = .ok (.getfield 106, 3) ∧ decode cX0_cutSet 21 = .ok (.ifCond .eq 9, 3) ∧ decode cX0_cutSet 24 = .ok (.iload_n 1, 1) ∧ decode cX0_cutSet 25 = .ok (.iconst 1, 1) ∧ decode cX0_cutSet 26 = .ok (.iload_n 2, 1) ∧ decode cX0_cutSet 27 = .ok (.ishl, 1) ∧ decode cX0_cutSet 28 = .ok (.ior, 1) ∧ decode cX0_cutSet 29 = .ok (.istore_n 1, 1) := by decide +kernel
theorem e_X0_cutSet_2 : decode cX0_cutSet 30 = .ok (.iinc 2 1, 3) ∧ decode cX0_cutSet 33 = .ok (.goto (-29), 3) ∧ decode cX0_cutSet 36 = .ok (.iload_n 1, 1) ∧ decode cX0_cutSet 37 = .ok (.ireturn, 1) := by decide +kernel
abbrev E_X0_cutSet_4 (G : Kg) (c l1 l2 : Int) (σ : Kmem) (Q : Int → Kmem → Prop) : Prop := Ex G WX M_X0_cutSet 0 0 0 4 [(0, vA G c), (1, vI l1), (2, vI l2)] [] σ Q
theorem S_X0_cutSet {G : Kg} {σ : Kmem} {Q : Int → Kmem → Prop} {c : Int} (hc : isC c) (h : E_X0_cutSet_4 G c 0 0 σ Q) : Run G WX M_X0_cutSet 0 0 0 [vA G c] σ Q := by
  refine Run.of (by decide +kernel) (by show (1 : Nat) ≤ 3; decide) ?_
  show Ex G WX M_X0_cutSet 0 0 0 0 [(0, vA G c)] [] σ Q
  refine R_iconst e_X0_cutSet_0.1 ?_
  refine R_istore_n (ls2 := [(1, vI 0), (0, vA G c)]) e_X0_cutSet_0.2.1 (by decide) rfl ?_
  refine R_iconst e_X0_cutSet_0.2.2.1 ?_
  refine R_istore_n (ls2 := [(2, vI 0), (1, vI 0), (0, vA G c)]) e_X0_cutSet_0.2.2.2.1 (by decide) rfl ?_
  refine R_ls (ls2 := [(0, vA G c), (1, vI 0), (2, vI 0)]) [2, 1, 0] rfl ?_
  exact h
theorem S_X0_cutSet_4 {G : Kg} {σ : Kmem} {Q : Int → Kmem → Prop} {c l1 l2 : Int} (hc : isC c) (h : (rI l2) ∧ (rI (σ c 5)) ∧ ((σ c 5 ≤ l2 → Q l1 σ) ∧ (l2 < σ c 5 → (0 ≤ l2 ∧ l2 < 6) ∧ (rI (σ (c + 6 + l2) 9)) ∧ ((σ (c + 6 + l2) 9 = 0 → E_X0_cutSet_4 G c l1 (l2 + 1) σ Q) ∧ (σ (c + 6 + l2) 9 ≠ 0 → E_X0_cutSet_4 G c (kor l1 (kshl 1 l2)) (l2 + 1) σ Q))))) : E_X0_cutSet_4 G c l1 l2 σ Q := by
  refine R_iload_n e_X0_cutSet_0.2.2.2.2.1 2 rfl ?_
  refine R_aload_n e_X0_cutSet_0.2.2.2.2.2.1 0 rfl ?_
  refine R_getI 0 5 5 e_X0_cutSet_0.2.2.2.2.2.2.1 f_X0_27 (kC_self hc) (fun _ _ => rfl) rfl ?_
  obtain ⟨q1, h⟩ := h
  obtain ⟨q2, h⟩ := h
  refine R_icmp_ge 36 e_X0_cutSet_0.2.2.2.2.2.2.2.1 (by decide) q1 q2 (fun q => ?_) (fun q => ?_)
  · replace h := h.1 q
    refine R_iload_n e_X0_cutSet_2.2.2.1 1 rfl ?_
    exact R_ireturn e_X0_cutSet_2.2.2.2 rfl h
  · replace h := h.2 q
    refine R_aload_n e_X0_cutSet_0.2.2.2.2.2.2.2.2.1 0 rfl ?_
    refine R_getA 0 10 (c + 3) e_X0_cutSet_0.2.2.2.2.2.2.2.2.2 f_X0_45 (kC_self hc) (fun _ _ => rfl) (kC_r10 hc) (kC_n3 hc) ?_
    refine R_iload_n e_X0_cutSet_1.1 2 rfl ?_
    obtain ⟨q3, h⟩ := h
    refine R_aald 27 6 (c + 6 + l2) e_X0_cutSet_1.2.1 (by decide) (kC_kites hc) q3 (kC_kiteAt hc q3) (kC_kiteN hc q3) ?_
    refine R_getI 3 9 9 e_X0_cutSet_1.2.2.1 f_X0_106 (kC_kite hc q3) (fun _ _ => rfl) rfl ?_
    obtain ⟨q4, h⟩ := h
    refine R_if_eq 30 e_X0_cutSet_1.2.2.2.1 (by decide) q4  (fun q => ?_) (fun q => ?_)
    · replace h := h.1 q
      refine R_iinc (ls2 := [(2, vI (l2 + 1)), (0, vA G c), (1, vI l1)]) e_X0_cutSet_2.1 2 rfl (by decide) rfl ?_
      refine R_goto 4 e_X0_cutSet_2.2.1 (by decide) ?_
      refine R_ls (ls2 := [(0, vA G c), (1, vI l1), (2, vI (l2 + 1))]) [1, 2, 0] rfl ?_
      exact h
    · replace h := h.2 q
      refine R_iload_n e_X0_cutSet_1.2.2.2.2.1 1 rfl ?_
      refine R_iconst e_X0_cutSet_1.2.2.2.2.2.1 ?_
      refine R_iload_n e_X0_cutSet_1.2.2.2.2.2.2.1 2 rfl ?_
      refine R_ishl e_X0_cutSet_1.2.2.2.2.2.2.2.1 ?_
      refine R_ior e_X0_cutSet_1.2.2.2.2.2.2.2.2.1 ?_
      refine R_istore_n (ls2 := [(1, vI (kor l1 (kshl 1 l2))), (0, vA G c), (2, vI l2)]) e_X0_cutSet_1.2.2.2.2.2.2.2.2.2 (by decide) rfl ?_
      refine R_iinc (ls2 := [(2, vI (l2 + 1)), (1, vI (kor l1 (kshl 1 l2))), (0, vA G c)]) e_X0_cutSet_2.1 2 rfl (by decide) rfl ?_
      refine R_goto 4 e_X0_cutSet_2.2.1 (by decide) ?_
      refine R_ls (ls2 := [(0, vA G c), (1, vI (kor l1 (kshl 1 l2))), (2, vI (l2 + 1))]) [2, 1, 0] rfl ?_
      exact h
/-! KiteLand$County.putCutSet(I)V -/
theorem e_X0_putCutSet_0 : decode cX0_putCutSet 0 = .ok (.iconst 0, 1) ∧ decode cX0_putCutSet 1 = .ok (.istore_n 2, 1) ∧ decode cX0_putCutSet 2 = .ok (.iload_n 2, 1) ∧ decode cX0_putCutSet 3 = .ok (.aload_n 0, 1) ∧ decode cX0_putCutSet 4 = .ok (.getfield 27, 3) ∧ decode cX0_putCutSet 7 = .ok (.if_icmp .ge 32, 3) ∧ decode cX0_putCutSet 10 = .ok (.aload_n 0, 1) ∧ decode cX0_putCutSet 11 = .ok (.getfield 45, 3) ∧ decode cX0_putCutSet 14 = .ok (.iload_n 2, 1) ∧ decode cX0_putCutSet 15 = .ok (.aaload, 1) := by decide +kernel
theorem e_X0_putCutSet_1 : decode cX0_putCutSet 16 = .ok (.iload_n 1, 1) ∧ decode cX0_putCutSet 17 = .ok (.iload_n 2, 1) ∧ decode cX0_putCutSet 18 = .ok (.ishr, 1) ∧ decode cX0_putCutSet 19 = .ok (.iconst 1, 1) ∧ decode cX0_putCutSet 20 = .ok (.iand, 1) ∧ decode cX0_putCutSet 21 = .ok (.iconst 1, 1) ∧ decode cX0_putCutSet 22 = .ok (.if_icmp .ne 7, 3) ∧ decode cX0_putCutSet 25 = .ok (.iconst 1, 1) ∧ decode cX0_putCutSet 26 = .ok (.goto 4, 3) ∧ decode cX0_putCutSet 29 = .ok (.iconst 0, 1) := by decide +kernel
theorem e_X0_putCutSet_2 : decode cX0_putCutSet 30 = .ok (.putfield 106, 3) ∧ decode cX0_putCutSet 33 = .ok (.iinc 2 1, 3) ∧ decode cX0_putCutSet 36 = .ok (.goto (-34), 3) ∧ decode cX0_putCutSet 39 = .ok (.return_, 1) := by decide +kernel
abbrev E_X0_putCutSet_2 (G : Kg) (c l1 l2 : Int) (σ : Kmem) (Q : Int → Kmem → Prop) : Prop := Ex G WX M_X0_putCutSet 0 0 0 2 [(0, vA G c), (1, vI l1), (2, vI l2)] [] σ Q
theorem S_X0_putCutSet {G : Kg} {σ : Kmem} {Q : Int → Kmem → Prop} {c l1 : Int} (hc : isC c) (h : E_X0_putCutSet_2 G c l1 0 σ Q) : Run G WX M_X0_putCutSet 0 0 0 [vA G c, vI l1] σ Q := by
  refine Run.of (by decide +kernel) (by show (2 : Nat) ≤ 3; decide) ?_
  show Ex G WX M_X0_putCutSet 0 0 0 0 [(0, vA G c), (1, vI l1)] [] σ Q
  refine R_iconst e_X0_putCutSet_0.1 ?_
  refine R_istore_n (ls2 := [(2, vI 0), (0, vA G c), (1, vI l1)]) e_X0_putCutSet_0.2.1 (by decide) rfl ?_
  refine R_ls (ls2 := [(0, vA G c), (1, vI l1), (2, vI 0)]) [1, 2, 0] rfl ?_
  exact h
theorem S_X0_putCutSet_2 {G : Kg} {σ : Kmem} {Q : Int → Kmem → Prop} {c l1 l2 : Int} (hc : isC c) (h : (rI l2) ∧ (rI (σ c 5)) ∧ ((σ c 5 ≤ l2 → Q 0 σ) ∧ (l2 < σ c 5 → (0 ≤ l2 ∧ l2 < 6) ∧ (rI (kand (kshr l1 l2) 1)) ∧ ((kand (kshr l1 l2) 1 ≠ 1 → E_X0_putCutSet_2 G c l1 (l2 + 1) (kup σ (c + 6 + l2) 9 0) Q) ∧ (kand (kshr l1 l2) 1 = 1 → E_X0_putCutSet_2 G c l1 (l2 + 1) (kup σ (c + 6 + l2) 9 1) Q))))) : E_X0_putCutSet_2 G c l1 l2 σ Q := by
  refine R_iload_n e_X0_putCutSet_0.2.2.1 2 rfl ?_
  refine R_aload_n e_X0_putCutSet_0.2.2.2.1 0 rfl ?_
  refine R_getI 0 5 5 e_X0_putCutSet_0.2.2.2.2.1 f_X0_27 (kC_self hc) (fun _ _ => rfl) rfl ?_
  obtain ⟨q1, h⟩ := h
  obtain ⟨q2, h⟩ := h
  refine R_icmp_ge 39 e_X0_putCutSet_0.2.2.2.2.2.1 (by decide) q1 q2 (fun q => ?_) (fun q => ?_)
  · replace h := h.1 q
    exact R_return e_X0_putCutSet_2.2.2.2 rfl h
  · replace h := h.2 q
    refine R_aload_n e_X0_putCutSet_0.2.2.2.2.2.2.1 0 rfl ?_
    refine R_getA 0 10 (c + 3) e_X0_putCutSet_0.2.2.2.2.2.2.2.1 f_X0_45 (kC_self hc) (fun _ _ => rfl) (kC_r10 hc) (kC_n3 hc) ?_
    refine R_iload_n e_X0_putCutSet_0.2.2.2.2.2.2.2.2.1 2 rfl ?_
    obtain ⟨q3, h⟩ := h
    refine R_aald 27 6 (c + 6 + l2) e_X0_putCutSet_0.2.2.2.2.2.2.2.2.2 (by decide) (kC_kites hc) q3 (kC_kiteAt hc q3) (kC_kiteN hc q3) ?_
    refine R_iload_n e_X0_putCutSet_1.1 1 rfl ?_
    refine R_iload_n e_X0_putCutSet_1.2.1 2 rfl ?_
    refine R_ishr e_X0_putCutSet_1.2.2.1 ?_
    refine R_iconst e_X0_putCutSet_1.2.2.2.1 ?_
    refine R_iand e_X0_putCutSet_1.2.2.2.2.1 ?_
    refine R_iconst e_X0_putCutSet_1.2.2.2.2.2.1 ?_
    obtain ⟨q4, h⟩ := h
    refine R_icmp_ne 29 e_X0_putCutSet_1.2.2.2.2.2.2.1 (by decide) q4 (by decide) (fun q => ?_) (fun q => ?_)
    · replace h := h.1 q
      refine R_iconst e_X0_putCutSet_1.2.2.2.2.2.2.2.2.2 ?_
      refine R_putZ 3 9 9 WX_ok e_X0_putCutSet_2.1 f_X0_106 (kC_kite hc q3) rfl rfl rfl (Or.inl rfl) ?_
      refine R_iinc (ls2 := [(2, vI (l2 + 1)), (0, vA G c), (1, vI l1)]) e_X0_putCutSet_2.2.1 2 rfl (by decide) rfl ?_
      refine R_goto 2 e_X0_putCutSet_2.2.2.1 (by decide) ?_
      refine R_ls (ls2 := [(0, vA G c), (1, vI l1), (2, vI (l2 + 1))]) [1, 2, 0] rfl ?_
      exact h
    · replace h := h.2 q
      refine R_iconst e_X0_putCutSet_1.2.2.2.2.2.2.2.1 ?_
      refine R_goto 30 e_X0_putCutSet_1.2.2.2.2.2.2.2.2.1 (by decide) ?_
      refine R_putZ 3 9 9 WX_ok e_X0_putCutSet_2.1 f_X0_106 (kC_kite hc q3) rfl rfl rfl (Or.inr rfl) ?_
      refine R_iinc (ls2 := [(2, vI (l2 + 1)), (0, vA G c), (1, vI l1)]) e_X0_putCutSet_2.2.1 2 rfl (by decide) rfl ?_
      refine R_goto 2 e_X0_putCutSet_2.2.2.1 (by decide) ?_
      refine R_ls (ls2 := [(0, vA G c), (1, vI l1), (2, vI (l2 + 1))]) [1, 2, 0] rfl ?_
      exact h
/-! KiteLand$County.ripeSet()I -/
theorem e_X0_ripeSet_0 : decode cX0_ripeSet 0 = .ok (.iconst 0, 1) ∧ decode cX0_ripeSet 1 = .ok (.istore_n 1, 1) ∧ decode cX0_ripeSet 2 = .ok (.iconst 0, 1) ∧ decode cX0_ripeSet 3 = .ok (.istore_n 2, 1) ∧ decode cX0_ripeSet 4 = .ok (.iload_n 2, 1) ∧ decode cX0_ripeSet 5 = .ok (.aload_n 0, 1) ∧ decode cX0_ripeSet 6 = .ok (.getfield 30, 3) ∧ decode cX0_ripeSet 9 = .ok (.if_icmp .ge 27, 3) ∧ decode cX0_ripeSet 12 = .ok (.aload_n 0, 1) ∧ decode cX0_ripeSet 13 = .ok (.getfield 51, 3) := by decide +kernel
theorem e_X0_ripeSet_1 : decode cX0_ripeSet 16 = .ok (.iload_n 2, 1) ∧ decode cX0_ripeSet 17 = .ok (.aaload, 1) ∧ decode cX0_ripeSet 18 = .ok (.invokevirtual 110, 3) ∧ decode cX0_ripeSet 21 = .ok (.ifCond .eq 9, 3) ∧ decode cX0_ripeSet 24 = .ok (.iload_n 1, 1) ∧ decode cX0_ripeSet 25 = .ok (.iconst 1, 1) ∧ decode cX0_ripeSet 26 = .ok (.iload_n 2, 1) ∧ decode cX0_ripeSet 27 = .ok (.ishl, 1) ∧ decode cX0_ripeSet 28 = .ok (.ior, 1) ∧ decode cX0_ripeSet 29 = .ok (.istore_n 1, 1) := by decide +kernel
theorem e_X0_ripeSet_2 : decode cX0_ripeSet 30 = .ok (.iinc 2 1, 3) ∧ decode cX0_ripeSet 33 = .ok (.goto (-29), 3) ∧ decode cX0_ripeSet 36 = .ok (.iload_n 1, 1) ∧ decode cX0_ripeSet 37 = .ok (.ireturn, 1) := by decide +kernel
abbrev E_X0_ripeSet_4 (G : Kg) (c l1 l2 : Int) (σ : Kmem) (Q : Int → Kmem → Prop) : Prop := Ex G WX M_X0_ripeSet 1 0 0 4 [(0, vA G c), (1, vI l1), (2, vI l2)] [] σ Q
theorem S_X0_ripeSet {G : Kg} {σ : Kmem} {Q : Int → Kmem → Prop} {c : Int} (hc : isC c) (h : E_X0_ripeSet_4 G c 0 0 σ Q) : Run G WX M_X0_ripeSet 1 0 0 [vA G c] σ Q := by
  refine Run.of (by decide +kernel) (by show (1 : Nat) ≤ 3; decide) ?_
  show Ex G WX M_X0_ripeSet 1 0 0 0 [(0, vA G c)] [] σ Q
  refine R_iconst e_X0_ripeSet_0.1 ?_
  refine R_istore_n (ls2 := [(1, vI 0), (0, vA G c)]) e_X0_ripeSet_0.2.1 (by decide) rfl ?_
  refine R_iconst e_X0_ripeSet_0.2.2.1 ?_
  refine R_istore_n (ls2 := [(2, vI 0), (1, vI 0), (0, vA G c)]) e_X0_ripeSet_0.2.2.2.1 (by decide) rfl ?_
  refine R_ls (ls2 := [(0, vA G c), (1, vI 0), (2, vI 0)]) [2, 1, 0] rfl ?_
  exact h
theorem S_X0_ripeSet_4 {G : Kg} {σ : Kmem} {Q : Int → Kmem → Prop} {c l1 l2 : Int} (hc : isC c) (h : (rI l2) ∧ (rI (σ c 6)) ∧ ((σ c 6 ≤ l2 → Q l1 σ) ∧ (l2 < σ c 6 → (0 ≤ l2 ∧ l2 < 8) ∧ Run G WX M_X2_isRipe 0 0 0 [vA G (c + 12 + l2)] σ (fun r4 s5 => (rI r4) ∧ ((r4 = 0 → E_X0_ripeSet_4 G c l1 (l2 + 1) s5 Q) ∧ (r4 ≠ 0 → E_X0_ripeSet_4 G c (kor l1 (kshl 1 l2)) (l2 + 1) s5 Q)))))) : E_X0_ripeSet_4 G c l1 l2 σ Q := by
  refine R_iload_n e_X0_ripeSet_0.2.2.2.2.1 2 rfl ?_
  refine R_aload_n e_X0_ripeSet_0.2.2.2.2.2.1 0 rfl ?_
  refine R_getI 0 6 6 e_X0_ripeSet_0.2.2.2.2.2.2.1 f_X0_30 (kC_self hc) (fun _ _ => rfl) rfl ?_
  obtain ⟨q1, h⟩ := h
  obtain ⟨q2, h⟩ := h
  refine R_icmp_ge 36 e_X0_ripeSet_0.2.2.2.2.2.2.2.1 (by decide) q1 q2 (fun q => ?_) (fun q => ?_)
  · replace h := h.1 q
    refine R_iload_n e_X0_ripeSet_2.2.2.1 1 rfl ?_
    exact R_ireturn e_X0_ripeSet_2.2.2.2 rfl h
  · replace h := h.2 q
    refine R_aload_n e_X0_ripeSet_0.2.2.2.2.2.2.2.2.1 0 rfl ?_
    refine R_getA 0 11 (c + 4) e_X0_ripeSet_0.2.2.2.2.2.2.2.2.2 f_X0_51 (kC_self hc) (fun _ _ => rfl) (kC_r11 hc) (kC_n4 hc) ?_
    refine R_iload_n e_X0_ripeSet_1.1 2 rfl ?_
    obtain ⟨q3, h⟩ := h
    refine R_aald 28 8 (c + 12 + l2) e_X0_ripeSet_1.2.1 (by decide) (kC_crops hc) q3 (kC_cropAt hc q3) (kC_cropN hc q3) ?_
    refine R_callV (mc := 0) (ms := 0) (mc' := 0) (ms' := 0) (M' := M_X2_isRipe) (d' := 0) (as := []) (st := []) 2 0 e_X0_ripeSet_1.2.2.1 (kCVof m_X2_isRipe l_X0_110) rfl (by decide) (kC_crop hc q3) (by decide) (by decide) rfl rfl (by show (0 : Nat) ≤ 8; decide) ?_
    refine Run.mono h (fun r4 s5 h => ?_)
    refine R_eqs (st2 := [vI r4]) rfl rfl ?_
    obtain ⟨q6, h⟩ := h
    refine R_if_eq 30 e_X0_ripeSet_1.2.2.2.1 (by decide) q6  (fun q => ?_) (fun q => ?_)
    · replace h := h.1 q
      refine R_iinc (ls2 := [(2, vI (l2 + 1)), (0, vA G c), (1, vI l1)]) e_X0_ripeSet_2.1 2 rfl (by decide) rfl ?_
      refine R_goto 4 e_X0_ripeSet_2.2.1 (by decide) ?_
      refine R_ls (ls2 := [(0, vA G c), (1, vI l1), (2, vI (l2 + 1))]) [1, 2, 0] rfl ?_
      exact h
    · replace h := h.2 q
      refine R_iload_n e_X0_ripeSet_1.2.2.2.2.1 1 rfl ?_
      refine R_iconst e_X0_ripeSet_1.2.2.2.2.2.1 ?_
      refine R_iload_n e_X0_ripeSet_1.2.2.2.2.2.2.1 2 rfl ?_
      refine R_ishl e_X0_ripeSet_1.2.2.2.2.2.2.2.1 ?_
      refine R_ior e_X0_ripeSet_1.2.2.2.2.2.2.2.2.1 ?_
      refine R_istore_n (ls2 := [(1, vI (kor l1 (kshl 1 l2))), (0, vA G c), (2, vI l2)]) e_X0_ripeSet_1.2.2.2.2.2.2.2.2.2 (by decide) rfl ?_
      refine R_iinc (ls2 := [(2, vI (l2 + 1)), (1, vI (kor l1 (kshl 1 l2))), (0, vA G c)]) e_X0_ripeSet_2.1 2 rfl (by decide) rfl ?_
      refine R_goto 4 e_X0_ripeSet_2.2.1 (by decide) ?_
      refine R_ls (ls2 := [(0, vA G c), (1, vI (kor l1 (kshl 1 l2))), (2, vI (l2 + 1))]) [2, 1, 0] rfl ?_
      exact h
/-! KiteLand$County.mayStep(II)Z -/
theorem e_X0_mayStep_0 : decode cX0_mayStep 0 = .ok (.aload_n 0, 1) ∧ decode cX0_mayStep 1 = .ok (.aload_n 0, 1) ∧ decode cX0_mayStep 2 = .ok (.getfield 45, 3) ∧ decode cX0_mayStep 5 = .ok (.iload_n 1, 1) ∧ decode cX0_mayStep 6 = .ok (.aaload, 1) ∧ decode cX0_mayStep 7 = .ok (.getfield 114, 3) ∧ decode cX0_mayStep 10 = .ok (.getstatic 117, 3) ∧ decode cX0_mayStep 13 = .ok (.iload_n 2, 1) ∧ decode cX0_mayStep 14 = .ok (.iaload, 1) ∧ decode cX0_mayStep 15 = .ok (.iadd, 1) := by decide +kernel
theorem e_X0_mayStep_1 : decode cX0_mayStep 16 = .ok (.aload_n 0, 1) ∧ decode cX0_mayStep 17 = .ok (.getfield 45, 3) ∧ decode cX0_mayStep 20 = .ok (.iload_n 1, 1) ∧ decode cX0_mayStep 21 = .ok (.aaload, 1) ∧ decode cX0_mayStep 22 = .ok (.getfield 120, 3) ∧ decode cX0_mayStep 25 = .ok (.getstatic 123, 3) ∧ decode cX0_mayStep 28 = .ok (.iload_n 2, 1) ∧ decode cX0_mayStep 29 = .ok (.iaload, 1) ∧ decode cX0_mayStep 30 = .ok (.iadd, 1) ∧ decode cX0_mayStep 31 = .ok (.invokevirtual 89, 3) := by decide +kernel
theorem e_X0_mayStep_2 : decode cX0_mayStep 34 = .ok (.ireturn, 1) := by decide +kernel
theorem S_X0_mayStep {G : Kg} {σ : Kmem} {Q : Int → Kmem → Prop} {c l1 l2 : Int} (hc : isC c) (h : (0 ≤ l1 ∧ l1 < 6) ∧ (0 ≤ l2 ∧ l2 < 5) ∧ (0 ≤ l1 ∧ l1 < 6) ∧ (0 ≤ l2 ∧ l2 < 5) ∧ Run G WX M_X0_hasField 1 0 0 [vA G c, vI ((σ (c + 6 + l1) 1) + (kst0 l2)), vI ((σ (c + 6 + l1) 2) + (kst1 l2))] σ (fun r5 s6 => (r5 = 0 ∨ r5 = 1) ∧ Q r5 s6)) : Run G WX M_X0_mayStep 2 0 0 [vA G c, vI l1, vI l2] σ Q := by
  refine Run.of (by decide +kernel) (by show (3 : Nat) ≤ 3; decide) ?_
  show Ex G WX M_X0_mayStep 2 0 0 0 [(0, vA G c), (1, vI l1), (2, vI l2)] [] σ Q
  refine R_aload_n e_X0_mayStep_0.1 0 rfl ?_
  refine R_aload_n e_X0_mayStep_0.2.1 0 rfl ?_
  refine R_getA 0 10 (c + 3) e_X0_mayStep_0.2.2.1 f_X0_45 (kC_self hc) (fun _ _ => rfl) (kC_r10 hc) (kC_n3 hc) ?_
  refine R_iload_n e_X0_mayStep_0.2.2.2.1 1 rfl ?_
  obtain ⟨q1, h⟩ := h
  refine R_aald 27 6 (c + 6 + l1) e_X0_mayStep_0.2.2.2.2.1 (by decide) (kC_kites hc) q1 (kC_kiteAt hc q1) (kC_kiteN hc q1) ?_
  refine R_getI 3 1 1 e_X0_mayStep_0.2.2.2.2.2.1 f_X0_114 (kC_kite hc q1) (fun _ _ => rfl) rfl ?_
  refine R_getsN (i := 0) (-1) e_X0_mayStep_0.2.2.2.2.2.2.1 rfl kn_X0_117 rfl ?_
  refine R_iload_n e_X0_mayStep_0.2.2.2.2.2.2.2.1 2 rfl ?_
  obtain ⟨q2, h⟩ := h
  refine R_ialdS (i := 0) (-1) (kst0 l2) e_X0_mayStep_0.2.2.2.2.2.2.2.2.1 rfl rfl q2 (by decide) (kst0_v q2) ?_
  refine R_iadd e_X0_mayStep_0.2.2.2.2.2.2.2.2.2 ?_
  refine R_aload_n e_X0_mayStep_1.1 0 rfl ?_
  refine R_getA 0 10 (c + 3) e_X0_mayStep_1.2.1 f_X0_45 (kC_self hc) (fun _ _ => rfl) (kC_r10 hc) (kC_n3 hc) ?_
  refine R_iload_n e_X0_mayStep_1.2.2.1 1 rfl ?_
  obtain ⟨q3, h⟩ := h
  refine R_aald 27 6 (c + 6 + l1) e_X0_mayStep_1.2.2.2.1 (by decide) (kC_kites hc) q3 (kC_kiteAt hc q3) (kC_kiteN hc q3) ?_
  refine R_getI 3 2 2 e_X0_mayStep_1.2.2.2.2.1 f_X0_120 (kC_kite hc q3) (fun _ _ => rfl) rfl ?_
  refine R_getsN (i := 1) (-2) e_X0_mayStep_1.2.2.2.2.2.1 rfl kn_X0_123 rfl ?_
  refine R_iload_n e_X0_mayStep_1.2.2.2.2.2.2.1 2 rfl ?_
  obtain ⟨q4, h⟩ := h
  refine R_ialdS (i := 1) (-2) (kst1 l2) e_X0_mayStep_1.2.2.2.2.2.2.2.1 rfl rfl q4 (by decide) (kst1_v q4) ?_
  refine R_iadd e_X0_mayStep_1.2.2.2.2.2.2.2.2.1 ?_
  refine R_callV (mc := 0) (ms := 0) (mc' := 0) (ms' := 0) (M' := M_X0_hasField) (d' := 1) (as := [vI ((σ (c + 6 + l1) 1) + (kst0 l2)), vI ((σ (c + 6 + l1) 2) + (kst1 l2))]) (st := []) 0 2 e_X0_mayStep_1.2.2.2.2.2.2.2.2.2 (kCVof m_X0_hasField l_X0_89) rfl (by decide) (kC_self hc) (by decide) (by decide) rfl rfl (by show (0 : Nat) ≤ 8; decide) ?_
  refine Run.mono h (fun r5 s6 h => ?_)
  refine R_eqs (st2 := [vI r5]) rfl rfl ?_
  obtain ⟨q7, h⟩ := h
  exact R_zreturn e_X0_mayStep_2 rfl q7 h
/-! KiteLand$County.stepHand(II)V -/
theorem e_X0_stepHand_0 : decode cX0_stepHand 0 = .ok (.aload_n 0, 1) ∧ decode cX0_stepHand 1 = .ok (.getfield 45, 3) ∧ decode cX0_stepHand 4 = .ok (.iload_n 1, 1) ∧ decode cX0_stepHand 5 = .ok (.aaload, 1) ∧ decode cX0_stepHand 6 = .ok (.dup, 1) ∧ decode cX0_stepHand 7 = .ok (.getfield 114, 3) ∧ decode cX0_stepHand 10 = .ok (.getstatic 117, 3) ∧ decode cX0_stepHand 13 = .ok (.iload_n 2, 1) ∧ decode cX0_stepHand 14 = .ok (.iaload, 1) ∧ decode cX0_stepHand 15 = .ok (.iadd, 1) := by decide +kernel
theorem e_X0_stepHand_1 : decode cX0_stepHand 16 = .ok (.putfield 114, 3) ∧ decode cX0_stepHand 19 = .ok (.aload_n 0, 1) ∧ decode cX0_stepHand 20 = .ok (.getfield 45, 3) ∧ decode cX0_stepHand 23 = .ok (.iload_n 1, 1) ∧ decode cX0_stepHand 24 = .ok (.aaload, 1) ∧ decode cX0_stepHand 25 = .ok (.dup, 1) ∧ decode cX0_stepHand 26 = .ok (.getfield 120, 3) ∧ decode cX0_stepHand 29 = .ok (.getstatic 123, 3) ∧ decode cX0_stepHand 32 = .ok (.iload_n 2, 1) ∧ decode cX0_stepHand 33 = .ok (.iaload, 1) := by decide +kernel
theorem e_X0_stepHand_2 : decode cX0_stepHand 34 = .ok (.iadd, 1) ∧ decode cX0_stepHand 35 = .ok (.putfield 120, 3) ∧ decode cX0_stepHand 38 = .ok (.iload_n 2, 1) ∧ decode cX0_stepHand 39 = .ok (.ifCond .eq 18, 3) ∧ decode cX0_stepHand 42 = .ok (.aload_n 0, 1) ∧ decode cX0_stepHand 43 = .ok (.getfield 45, 3) ∧ decode cX0_stepHand 46 = .ok (.iload_n 1, 1) ∧ decode cX0_stepHand 47 = .ok (.aaload, 1) ∧ decode cX0_stepHand 48 = .ok (.dup, 1) ∧ decode cX0_stepHand 49 = .ok (.getfield 126, 3) := by decide +kernel
theorem e_X0_stepHand_3 : decode cX0_stepHand 52 = .ok (.iconst 1, 1) ∧ decode cX0_stepHand 53 = .ok (.iadd, 1) ∧ decode cX0_stepHand 54 = .ok (.putfield 126, 3) ∧ decode cX0_stepHand 57 = .ok (.return_, 1) := by decide +kernel
theorem S_X0_stepHand {G : Kg} {σ : Kmem} {Q : Int → Kmem → Prop} {c l1 l2 : Int} (hc : isC c) (h : (0 ≤ l1 ∧ l1 < 6) ∧ (0 ≤ l2 ∧ l2 < 5) ∧ (0 ≤ l1 ∧ l1 < 6) ∧ (0 ≤ l2 ∧ l2 < 5) ∧ (rI l2) ∧ ((l2 = 0 → Q 0 (kup (kup σ (c + 6 + l1) 1 ((σ (c + 6 + l1) 1) + (kst0 l2))) (c + 6 + l1) 2 (((kup σ (c + 6 + l1) 1 ((σ (c + 6 + l1) 1) + (kst0 l2))) (c + 6 + l1) 2) + (kst1 l2)))) ∧ (l2 ≠ 0 → (0 ≤ l1 ∧ l1 < 6) ∧ Q 0 (kup (kup (kup σ (c + 6 + l1) 1 ((σ (c + 6 + l1) 1) + (kst0 l2))) (c + 6 + l1) 2 (((kup σ (c + 6 + l1) 1 ((σ (c + 6 + l1) 1) + (kst0 l2))) (c + 6 + l1) 2) + (kst1 l2))) (c + 6 + l1) 8 (((kup (kup σ (c + 6 + l1) 1 ((σ (c + 6 + l1) 1) + (kst0 l2))) (c + 6 + l1) 2 (((kup σ (c + 6 + l1) 1 ((σ (c + 6 + l1) 1) + (kst0 l2))) (c + 6 + l1) 2) + (kst1 l2))) (c + 6 + l1) 8) + 1))))) : Run G WX M_X0_stepHand 0 0 0 [vA G c, vI l1, vI l2] σ Q := by
  refine Run.of (by decide +kernel) (by show (3 : Nat) ≤ 3; decide) ?_
  show Ex G WX M_X0_stepHand 0 0 0 0 [(0, vA G c), (1, vI l1), (2, vI l2)] [] σ Q
  refine R_aload_n e_X0_stepHand_0.1 0 rfl ?_
  refine R_getA 0 10 (c + 3) e_X0_stepHand_0.2.1 f_X0_45 (kC_self hc) (fun _ _ => rfl) (kC_r10 hc) (kC_n3 hc) ?_
  refine R_iload_n e_X0_stepHand_0.2.2.1 1 rfl ?_
  obtain ⟨q1, h⟩ := h
  refine R_aald 27 6 (c + 6 + l1) e_X0_stepHand_0.2.2.2.1 (by decide) (kC_kites hc) q1 (kC_kiteAt hc q1) (kC_kiteN hc q1) ?_
  refine R_dup e_X0_stepHand_0.2.2.2.2.1 rfl ?_
  refine R_getI 3 1 1 e_X0_stepHand_0.2.2.2.2.2.1 f_X0_114 (kC_kite hc q1) (fun _ _ => rfl) rfl ?_
  refine R_getsN (i := 0) (-1) e_X0_stepHand_0.2.2.2.2.2.2.1 rfl kn_X0_117 rfl ?_
  refine R_iload_n e_X0_stepHand_0.2.2.2.2.2.2.2.1 2 rfl ?_
  obtain ⟨q2, h⟩ := h
  refine R_ialdS (i := 0) (-1) (kst0 l2) e_X0_stepHand_0.2.2.2.2.2.2.2.2.1 rfl rfl q2 (by decide) (kst0_v q2) ?_
  refine R_iadd e_X0_stepHand_0.2.2.2.2.2.2.2.2.2 ?_
  refine R_putI 3 1 1 WX_ok e_X0_stepHand_1.1 f_X0_114 (kC_kite hc q1) rfl rfl rfl ?_
  refine R_aload_n e_X0_stepHand_1.2.1 0 rfl ?_
  refine R_getA 0 10 (c + 3) e_X0_stepHand_1.2.2.1 f_X0_45 (kC_self hc) (fun _ _ => rfl) (kC_r10 hc) (kC_n3 hc) ?_
  refine R_iload_n e_X0_stepHand_1.2.2.2.1 1 rfl ?_
  obtain ⟨q3, h⟩ := h
  refine R_aald 27 6 (c + 6 + l1) e_X0_stepHand_1.2.2.2.2.1 (by decide) (kC_kites hc) q3 (kC_kiteAt hc q3) (kC_kiteN hc q3) ?_
  refine R_dup e_X0_stepHand_1.2.2.2.2.2.1 rfl ?_
  refine R_getI 3 2 2 e_X0_stepHand_1.2.2.2.2.2.2.1 f_X0_120 (kC_kite hc q3) (fun _ _ => rfl) rfl ?_
  refine R_getsN (i := 1) (-2) e_X0_stepHand_1.2.2.2.2.2.2.2.1 rfl kn_X0_123 rfl ?_
  refine R_iload_n e_X0_stepHand_1.2.2.2.2.2.2.2.2.1 2 rfl ?_
  obtain ⟨q4, h⟩ := h
  refine R_ialdS (i := 1) (-2) (kst1 l2) e_X0_stepHand_1.2.2.2.2.2.2.2.2.2 rfl rfl q4 (by decide) (kst1_v q4) ?_
  refine R_iadd e_X0_stepHand_2.1 ?_
  refine R_putI 3 2 2 WX_ok e_X0_stepHand_2.2.1 f_X0_120 (kC_kite hc q3) rfl rfl rfl ?_
  refine R_iload_n e_X0_stepHand_2.2.2.1 2 rfl ?_
  obtain ⟨q5, h⟩ := h
  refine R_if_eq 57 e_X0_stepHand_2.2.2.2.1 (by decide) q5  (fun q => ?_) (fun q => ?_)
  · replace h := h.1 q
    exact R_return e_X0_stepHand_3.2.2.2 rfl h
  · replace h := h.2 q
    refine R_aload_n e_X0_stepHand_2.2.2.2.2.1 0 rfl ?_
    refine R_getA 0 10 (c + 3) e_X0_stepHand_2.2.2.2.2.2.1 f_X0_45 (kC_self hc) (fun _ _ => rfl) (kC_r10 hc) (kC_n3 hc) ?_
    refine R_iload_n e_X0_stepHand_2.2.2.2.2.2.2.1 1 rfl ?_
    obtain ⟨q6, h⟩ := h
    refine R_aald 27 6 (c + 6 + l1) e_X0_stepHand_2.2.2.2.2.2.2.2.1 (by decide) (kC_kites hc) q6 (kC_kiteAt hc q6) (kC_kiteN hc q6) ?_
    refine R_dup e_X0_stepHand_2.2.2.2.2.2.2.2.2.1 rfl ?_
    refine R_getI 3 8 8 e_X0_stepHand_2.2.2.2.2.2.2.2.2.2 f_X0_126 (kC_kite hc q6) (fun _ _ => rfl) rfl ?_
    refine R_iconst e_X0_stepHand_3.1 ?_
    refine R_iadd e_X0_stepHand_3.2.1 ?_
    refine R_putI 3 8 8 WX_ok e_X0_stepHand_3.2.2.1 f_X0_126 (kC_kite hc q6) rfl rfl rfl ?_
    exact R_return e_X0_stepHand_3.2.2.2 rfl h
