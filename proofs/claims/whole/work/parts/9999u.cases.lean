/-! THE LAW: its 61 cases -/
theorem law_status {G G' : Kg} {b L : Nat} {xs : Nat → Int32} {i : Int} {σ τ : Kmem} (hL : L ≤ 3072) (hi : 0 ≤ i ∧ i + 6 ≤ L) (h : R σ τ) (next : ∀ σ' τ' : Kmem, R σ' τ' → Lx G G' b L xs 2164 i [] σ' τ') : Lx G G' b L xs 292 i [] σ τ := by
  refine L_a1 (by decide +kernel) ?_
  obtain ⟨Q1, Q2, r1, r2, r3⟩ := O_status (G := G) (G' := G')  h
  refine L_callX (M' := M_X11_status) (d' := 0) (as := []) (st := []) (by decide +kernel) (kCVof m_X11_status l_L_13) rfl (by decide) (by decide) rfl _ rfl (by decide) r1 (fun v σ' q1 => ?_)
  refine L_a2 (by decide +kernel) ?_
  refine L_callM (M' := M_X12_status) (d' := 0) (as := []) (st := [vI v]) (by decide +kernel) (kCVof m_X12_status l_L_17) rfl (by decide) (by decide) rfl _ rfl (by show (1 : Nat) ≤ 8; decide) r2 (fun v' τ' q2 => ?_)
  obtain ⟨e, h'⟩ := r3 _ _ _ _ q1 q2
  subst e
  exact L_ieq (o := 1864) 2164 (by decide +kernel) (by decide) (next _ _ h')
theorem law_top {G G' : Kg} {b L : Nat} {xs : Nat → Int32} {i : Int} {σ τ : Kmem} (hL : L ≤ 3072) (hi : 0 ≤ i ∧ i + 6 ≤ L) (h : R σ τ) (next : ∀ σ' τ' : Kmem, R σ' τ' → Lx G G' b L xs 2164 i [] σ' τ') : Lx G G' b L xs 305 i [] σ τ := by
  refine L_a1 (by decide +kernel) ?_
  obtain ⟨Q1, Q2, r1, r2, r3⟩ := O_top (G := G) (G' := G')  h
  refine L_callX (M' := M_X11_top) (d' := 0) (as := []) (st := []) (by decide +kernel) (kCVof m_X11_top l_L_18) rfl (by decide) (by decide) rfl _ rfl (by decide) r1 (fun v σ' q1 => ?_)
  refine L_a2 (by decide +kernel) ?_
  refine L_callM (M' := M_X12_top) (d' := 0) (as := []) (st := [vL v]) (by decide +kernel) (kCVof m_X12_top l_L_22) rfl (by decide) (by decide) rfl _ rfl (by show (2 : Nat) ≤ 8; decide) r2 (fun v' τ' q2 => ?_)
  obtain ⟨e, h'⟩ := r3 _ _ _ _ q1 q2
  subst e
  exact L_leq (o := 1850) 2164 (by decide +kernel) (by decide +kernel) (by decide) (next _ _ h')
theorem law_bottom {G G' : Kg} {b L : Nat} {xs : Nat → Int32} {i : Int} {σ τ : Kmem} (hL : L ≤ 3072) (hi : 0 ≤ i ∧ i + 6 ≤ L) (h : R σ τ) (next : ∀ σ' τ' : Kmem, R σ' τ' → Lx G G' b L xs 2164 i [] σ' τ') : Lx G G' b L xs 319 i [] σ τ := by
  refine L_a1 (by decide +kernel) ?_
  obtain ⟨Q1, Q2, r1, r2, r3⟩ := O_bottom (G := G) (G' := G')  h
  refine L_callX (M' := M_X11_bottom) (d' := 0) (as := []) (st := []) (by decide +kernel) (kCVof m_X11_bottom l_L_23) rfl (by decide) (by decide) rfl _ rfl (by decide) r1 (fun v σ' q1 => ?_)
  refine L_a2 (by decide +kernel) ?_
  refine L_callM (M' := M_X12_bottom) (d' := 0) (as := []) (st := [vL v]) (by decide +kernel) (kCVof m_X12_bottom l_L_26) rfl (by decide) (by decide) rfl _ rfl (by show (2 : Nat) ≤ 8; decide) r2 (fun v' τ' q2 => ?_)
  obtain ⟨e, h'⟩ := r3 _ _ _ _ q1 q2
  subst e
  exact L_leq (o := 1836) 2164 (by decide +kernel) (by decide +kernel) (by decide) (next _ _ h')
theorem law_tray {G G' : Kg} {b L : Nat} {xs : Nat → Int32} {i : Int} {σ τ : Kmem} (hL : L ≤ 3072) (hi : 0 ≤ i ∧ i + 6 ≤ L) (h : R σ τ) (next : ∀ σ' τ' : Kmem, R σ' τ' → Lx G G' b L xs 2164 i [] σ' τ') : Lx G G' b L xs 333 i [] σ τ := by
  refine L_a1 (by decide +kernel) ?_
  refine L_arg (j := 1) (by decide +kernel) (by decide +kernel) (by decide +kernel) (by decide +kernel) (by decide +kernel) hL (by omega) ?_
  refine L_arg (j := 2) (by decide +kernel) (by decide +kernel) (by decide +kernel) (by decide +kernel) (by decide +kernel) hL (by omega) ?_
  refine L_arg (j := 3) (by decide +kernel) (by decide +kernel) (by decide +kernel) (by decide +kernel) (by decide +kernel) hL (by omega) ?_
  obtain ⟨Q1, Q2, r1, r2, r3⟩ := O_tray (G := G) (G' := G') (l1 := sxs xs (i + 1)) (l2 := sxs xs (i + 2)) (l3 := sxs xs (i + 3)) h sxs_r sxs_r sxs_r
  refine L_callX (M' := M_X11_tray) (d' := 1) (as := [vI (sxs xs (i + 1)), vI (sxs xs (i + 2)), vI (sxs xs (i + 3))]) (st := []) (by decide +kernel) (kCVof m_X11_tray l_L_27) rfl (by decide) (by decide) rfl _ rfl (by decide) r1 (fun v σ' q1 => ?_)
  refine L_a2 (by decide +kernel) ?_
  refine L_arg (j := 1) (by decide +kernel) (by decide +kernel) (by decide +kernel) (by decide +kernel) (by decide +kernel) hL (by omega) ?_
  refine L_arg (j := 2) (by decide +kernel) (by decide +kernel) (by decide +kernel) (by decide +kernel) (by decide +kernel) hL (by omega) ?_
  refine L_arg (j := 3) (by decide +kernel) (by decide +kernel) (by decide +kernel) (by decide +kernel) (by decide +kernel) hL (by omega) ?_
  refine L_callM (M' := M_X12_tray) (d' := 1) (as := [vI (sxs xs (i + 1)), vI (sxs xs (i + 2)), vI (sxs xs (i + 3))]) (st := [vI v]) (by decide +kernel) (kCVof m_X12_tray l_L_31) rfl (by decide) (by decide) rfl _ rfl (by show (1 : Nat) ≤ 8; decide) r2 (fun v' τ' q2 => ?_)
  obtain ⟨e, h'⟩ := r3 _ _ _ _ q1 q2
  subst e
  exact L_ieq (o := 1793) 2164 (by decide +kernel) (by decide) (next _ _ h')
theorem law_write {G G' : Kg} {b L : Nat} {xs : Nat → Int32} {i : Int} {σ τ : Kmem} (hL : L ≤ 3072) (hi : 0 ≤ i ∧ i + 6 ≤ L) (h : R σ τ) (next : ∀ σ' τ' : Kmem, R σ' τ' → Lx G G' b L xs 2164 i [] σ' τ') : Lx G G' b L xs 376 i [] σ τ := by
  refine L_a1 (by decide +kernel) ?_
  refine L_arg (j := 1) (by decide +kernel) (by decide +kernel) (by decide +kernel) (by decide +kernel) (by decide +kernel) hL (by omega) ?_
  refine L_arg (j := 2) (by decide +kernel) (by decide +kernel) (by decide +kernel) (by decide +kernel) (by decide +kernel) hL (by omega) ?_
  refine L_arg (j := 3) (by decide +kernel) (by decide +kernel) (by decide +kernel) (by decide +kernel) (by decide +kernel) hL (by omega) ?_
  refine L_i2l (by decide +kernel) sxs_r ?_
  refine L_bipush (n := 32) (by decide +kernel) (by decide) ?_
  refine L_lshl (by decide +kernel) ?_
  refine L_arg (j := 4) (by decide +kernel) (by decide +kernel) (by decide +kernel) (by decide +kernel) (by decide +kernel) hL (by omega) ?_
  refine L_i2l (by decide +kernel) sxs_r ?_
  refine L_ldc2 (4294967295) k_L_32 (by decide +kernel) ?_
  refine L_land (by decide +kernel) ?_
  refine L_lor (by decide +kernel) ?_
  obtain ⟨Q1, Q2, r1, r2, r3⟩ := O_write (G := G) (G' := G') (l1 := sxs xs (i + 1)) (l2 := sxs xs (i + 2)) (l3 := klor (klshl (sxs xs (i + 3)) 32) (kland (sxs xs (i + 4)) 4294967295)) h sxs_r sxs_r (klor_r _ _)
  refine L_callX (M' := M_X11_write) (d' := 2) (as := [vI (sxs xs (i + 1)), vI (sxs xs (i + 2)), vL (klor (klshl (sxs xs (i + 3)) 32) (kland (sxs xs (i + 4)) 4294967295))]) (st := []) (by decide +kernel) (kCVof m_X11_write l_L_34) rfl (by decide) (by decide) rfl _ rfl (by decide) r1 (fun v σ' q1 => ?_)
  refine L_a2 (by decide +kernel) ?_
  refine L_arg (j := 1) (by decide +kernel) (by decide +kernel) (by decide +kernel) (by decide +kernel) (by decide +kernel) hL (by omega) ?_
  refine L_arg (j := 2) (by decide +kernel) (by decide +kernel) (by decide +kernel) (by decide +kernel) (by decide +kernel) hL (by omega) ?_
  refine L_arg (j := 3) (by decide +kernel) (by decide +kernel) (by decide +kernel) (by decide +kernel) (by decide +kernel) hL (by omega) ?_
  refine L_i2l (by decide +kernel) sxs_r ?_
  refine L_bipush (n := 32) (by decide +kernel) (by decide) ?_
  refine L_lshl (by decide +kernel) ?_
  refine L_arg (j := 4) (by decide +kernel) (by decide +kernel) (by decide +kernel) (by decide +kernel) (by decide +kernel) hL (by omega) ?_
  refine L_i2l (by decide +kernel) sxs_r ?_
  refine L_ldc2 (4294967295) k_L_32 (by decide +kernel) ?_
  refine L_land (by decide +kernel) ?_
  refine L_lor (by decide +kernel) ?_
  refine L_callM (M' := M_X12_write) (d' := 2) (as := [vI (sxs xs (i + 1)), vI (sxs xs (i + 2)), vL (klor (klshl (sxs xs (i + 3)) 32) (kland (sxs xs (i + 4)) 4294967295))]) (st := [vI v]) (by decide +kernel) (kCVof m_X12_write l_L_38) rfl (by decide) (by decide) rfl _ rfl (by show (1 : Nat) ≤ 8; decide) r2 (fun v' τ' q2 => ?_)
  obtain ⟨e, h'⟩ := r3 _ _ _ _ q1 q2
  subst e
  exact L_ieq (o := 1720) 2164 (by decide +kernel) (by decide) (next _ _ h')
theorem law_read {G G' : Kg} {b L : Nat} {xs : Nat → Int32} {i : Int} {σ τ : Kmem} (hL : L ≤ 3072) (hi : 0 ≤ i ∧ i + 6 ≤ L) (h : R σ τ) (next : ∀ σ' τ' : Kmem, R σ' τ' → Lx G G' b L xs 2164 i [] σ' τ') : Lx G G' b L xs 449 i [] σ τ := by
  refine L_a1 (by decide +kernel) ?_
  refine L_arg (j := 1) (by decide +kernel) (by decide +kernel) (by decide +kernel) (by decide +kernel) (by decide +kernel) hL (by omega) ?_
  refine L_arg (j := 2) (by decide +kernel) (by decide +kernel) (by decide +kernel) (by decide +kernel) (by decide +kernel) hL (by omega) ?_
  obtain ⟨Q1, Q2, r1, r2, r3⟩ := O_read (G := G) (G' := G') (l1 := sxs xs (i + 1)) (l2 := sxs xs (i + 2)) h sxs_r sxs_r
  refine L_callX (M' := M_X11_read) (d' := 2) (as := [vI (sxs xs (i + 1)), vI (sxs xs (i + 2))]) (st := []) (by decide +kernel) (kCVof m_X11_read l_L_39) rfl (by decide) (by decide) rfl _ rfl (by decide) r1 (fun v σ' q1 => ?_)
  refine L_a2 (by decide +kernel) ?_
  refine L_arg (j := 1) (by decide +kernel) (by decide +kernel) (by decide +kernel) (by decide +kernel) (by decide +kernel) hL (by omega) ?_
  refine L_arg (j := 2) (by decide +kernel) (by decide +kernel) (by decide +kernel) (by decide +kernel) (by decide +kernel) hL (by omega) ?_
  refine L_callM (M' := M_X12_read) (d' := 2) (as := [vI (sxs xs (i + 1)), vI (sxs xs (i + 2))]) (st := [vL v]) (by decide +kernel) (kCVof m_X12_read l_L_43) rfl (by decide) (by decide) rfl _ rfl (by show (2 : Nat) ≤ 8; decide) r2 (fun v' τ' q2 => ?_)
  obtain ⟨e, h'⟩ := r3 _ _ _ _ q1 q2
  subst e
  exact L_leq (o := 1686) 2164 (by decide +kernel) (by decide +kernel) (by decide) (next _ _ h')
theorem law_pour {G G' : Kg} {b L : Nat} {xs : Nat → Int32} {i : Int} {σ τ : Kmem} (hL : L ≤ 3072) (hi : 0 ≤ i ∧ i + 6 ≤ L) (h : R σ τ) (next : ∀ σ' τ' : Kmem, R σ' τ' → Lx G G' b L xs 2164 i [] σ' τ') : Lx G G' b L xs 483 i [] σ τ := by
  refine L_a1 (by decide +kernel) ?_
  refine L_arg (j := 1) (by decide +kernel) (by decide +kernel) (by decide +kernel) (by decide +kernel) (by decide +kernel) hL (by omega) ?_
  refine L_arg (j := 2) (by decide +kernel) (by decide +kernel) (by decide +kernel) (by decide +kernel) (by decide +kernel) hL (by omega) ?_
  refine L_arg (j := 3) (by decide +kernel) (by decide +kernel) (by decide +kernel) (by decide +kernel) (by decide +kernel) hL (by omega) ?_
  refine L_arg (j := 4) (by decide +kernel) (by decide +kernel) (by decide +kernel) (by decide +kernel) (by decide +kernel) hL (by omega) ?_
  refine L_arg (j := 5) (by decide +kernel) (by decide +kernel) (by decide +kernel) (by decide +kernel) (by decide +kernel) hL (by omega) ?_
  obtain ⟨Q1, Q2, r1, r2, r3⟩ := O_pour (G := G) (G' := G') (l1 := sxs xs (i + 1)) (l2 := sxs xs (i + 2)) (l3 := sxs xs (i + 3)) (l4 := sxs xs (i + 4)) (l5 := sxs xs (i + 5)) h sxs_r sxs_r sxs_r sxs_r sxs_r
  refine L_callX (M' := M_X11_pour) (d' := 1) (as := [vI (sxs xs (i + 1)), vI (sxs xs (i + 2)), vI (sxs xs (i + 3)), vI (sxs xs (i + 4)), vI (sxs xs (i + 5))]) (st := []) (by decide +kernel) (kCVof m_X11_pour l_L_44) rfl (by decide) (by decide) rfl _ rfl (by decide) r1 (fun v σ' q1 => ?_)
  refine L_a2 (by decide +kernel) ?_
  refine L_arg (j := 1) (by decide +kernel) (by decide +kernel) (by decide +kernel) (by decide +kernel) (by decide +kernel) hL (by omega) ?_
  refine L_arg (j := 2) (by decide +kernel) (by decide +kernel) (by decide +kernel) (by decide +kernel) (by decide +kernel) hL (by omega) ?_
  refine L_arg (j := 3) (by decide +kernel) (by decide +kernel) (by decide +kernel) (by decide +kernel) (by decide +kernel) hL (by omega) ?_
  refine L_arg (j := 4) (by decide +kernel) (by decide +kernel) (by decide +kernel) (by decide +kernel) (by decide +kernel) hL (by omega) ?_
  refine L_arg (j := 5) (by decide +kernel) (by decide +kernel) (by decide +kernel) (by decide +kernel) (by decide +kernel) hL (by omega) ?_
  refine L_callM (M' := M_X12_pour) (d' := 1) (as := [vI (sxs xs (i + 1)), vI (sxs xs (i + 2)), vI (sxs xs (i + 3)), vI (sxs xs (i + 4)), vI (sxs xs (i + 5))]) (st := [vI v]) (by decide +kernel) (kCVof m_X12_pour l_L_48) rfl (by decide) (by decide) rfl _ rfl (by show (1 : Nat) ≤ 8; decide) r2 (fun v' τ' q2 => ?_)
  obtain ⟨e, h'⟩ := r3 _ _ _ _ q1 q2
  subst e
  exact L_ieq (o := 1623) 2164 (by decide +kernel) (by decide) (next _ _ h')
theorem law_feed {G G' : Kg} {b L : Nat} {xs : Nat → Int32} {i : Int} {σ τ : Kmem} (hL : L ≤ 3072) (hi : 0 ≤ i ∧ i + 6 ≤ L) (h : R σ τ) (next : ∀ σ' τ' : Kmem, R σ' τ' → Lx G G' b L xs 2164 i [] σ' τ') : Lx G G' b L xs 546 i [] σ τ := by
  refine L_a1 (by decide +kernel) ?_
  refine L_arg (j := 1) (by decide +kernel) (by decide +kernel) (by decide +kernel) (by decide +kernel) (by decide +kernel) hL (by omega) ?_
  refine L_arg (j := 2) (by decide +kernel) (by decide +kernel) (by decide +kernel) (by decide +kernel) (by decide +kernel) hL (by omega) ?_
  refine L_arg (j := 3) (by decide +kernel) (by decide +kernel) (by decide +kernel) (by decide +kernel) (by decide +kernel) hL (by omega) ?_
  refine L_arg (j := 4) (by decide +kernel) (by decide +kernel) (by decide +kernel) (by decide +kernel) (by decide +kernel) hL (by omega) ?_
  refine L_arg (j := 5) (by decide +kernel) (by decide +kernel) (by decide +kernel) (by decide +kernel) (by decide +kernel) hL (by omega) ?_
  obtain ⟨Q1, Q2, r1, r2, r3⟩ := O_feed (G := G) (G' := G') (l1 := sxs xs (i + 1)) (l2 := sxs xs (i + 2)) (l3 := sxs xs (i + 3)) (l4 := sxs xs (i + 4)) (l5 := sxs xs (i + 5)) h sxs_r sxs_r sxs_r sxs_r sxs_r
  refine L_callX (M' := M_X11_feed) (d' := 1) (as := [vI (sxs xs (i + 1)), vI (sxs xs (i + 2)), vI (sxs xs (i + 3)), vI (sxs xs (i + 4)), vI (sxs xs (i + 5))]) (st := []) (by decide +kernel) (kCVof m_X11_feed l_L_49) rfl (by decide) (by decide) rfl _ rfl (by decide) r1 (fun v σ' q1 => ?_)
  refine L_a2 (by decide +kernel) ?_
  refine L_arg (j := 1) (by decide +kernel) (by decide +kernel) (by decide +kernel) (by decide +kernel) (by decide +kernel) hL (by omega) ?_
  refine L_arg (j := 2) (by decide +kernel) (by decide +kernel) (by decide +kernel) (by decide +kernel) (by decide +kernel) hL (by omega) ?_
  refine L_arg (j := 3) (by decide +kernel) (by decide +kernel) (by decide +kernel) (by decide +kernel) (by decide +kernel) hL (by omega) ?_
  refine L_arg (j := 4) (by decide +kernel) (by decide +kernel) (by decide +kernel) (by decide +kernel) (by decide +kernel) hL (by omega) ?_
  refine L_arg (j := 5) (by decide +kernel) (by decide +kernel) (by decide +kernel) (by decide +kernel) (by decide +kernel) hL (by omega) ?_
  refine L_callM (M' := M_X12_feed) (d' := 1) (as := [vI (sxs xs (i + 1)), vI (sxs xs (i + 2)), vI (sxs xs (i + 3)), vI (sxs xs (i + 4)), vI (sxs xs (i + 5))]) (st := [vI v]) (by decide +kernel) (kCVof m_X12_feed l_L_53) rfl (by decide) (by decide) rfl _ rfl (by show (1 : Nat) ≤ 8; decide) r2 (fun v' τ' q2 => ?_)
  obtain ⟨e, h'⟩ := r3 _ _ _ _ q1 q2
  subst e
  exact L_ieq (o := 1560) 2164 (by decide +kernel) (by decide) (next _ _ h')
theorem law_county {G G' : Kg} {b L : Nat} {xs : Nat → Int32} {i : Int} {σ τ : Kmem} (hL : L ≤ 3072) (hi : 0 ≤ i ∧ i + 6 ≤ L) (h : R σ τ) (next : ∀ σ' τ' : Kmem, R σ' τ' → Lx G G' b L xs 2164 i [] σ' τ') : Lx G G' b L xs 609 i [] σ τ := by
  refine L_a1 (by decide +kernel) ?_
  refine L_arg (j := 1) (by decide +kernel) (by decide +kernel) (by decide +kernel) (by decide +kernel) (by decide +kernel) hL (by omega) ?_
  obtain ⟨Q1, Q2, r1, r2, r3⟩ := O_county (G := G) (G' := G') (l1 := sxs xs (i + 1)) h sxs_r
  refine L_callX (M' := M_X11_county) (d' := 10) (as := [vI (sxs xs (i + 1))]) (st := []) (by decide +kernel) (kCVof m_X11_county l_L_54) rfl (by decide) (by decide) rfl _ rfl (by decide) r1 (fun v σ' q1 => ?_)
  refine L_a2 (by decide +kernel) ?_
  refine L_arg (j := 1) (by decide +kernel) (by decide +kernel) (by decide +kernel) (by decide +kernel) (by decide +kernel) hL (by omega) ?_
  refine L_callM (M' := M_X12_county) (d' := 9) (as := [vI (sxs xs (i + 1))]) (st := [vI v]) (by decide +kernel) (kCVof m_X12_county l_L_58) rfl (by decide) (by decide) rfl _ rfl (by show (1 : Nat) ≤ 8; decide) r2 (fun v' τ' q2 => ?_)
  obtain ⟨e, h'⟩ := r3 _ _ _ _ q1 q2
  subst e
  exact L_ieq (o := 1537) 2164 (by decide +kernel) (by decide) (next _ _ h')
theorem law_seasons {G G' : Kg} {b L : Nat} {xs : Nat → Int32} {i : Int} {σ τ : Kmem} (hL : L ≤ 3072) (hi : 0 ≤ i ∧ i + 6 ≤ L) (h : R σ τ) (next : ∀ σ' τ' : Kmem, R σ' τ' → Lx G G' b L xs 2164 i [] σ' τ') : Lx G G' b L xs 632 i [] σ τ := by
  refine L_a1 (by decide +kernel) ?_
  refine L_arg (j := 1) (by decide +kernel) (by decide +kernel) (by decide +kernel) (by decide +kernel) (by decide +kernel) hL (by omega) ?_
  obtain ⟨Q1, Q2, r1, r2, r3⟩ := O_seasons (G := G) (G' := G') (l1 := sxs xs (i + 1)) h sxs_r
  refine L_callX (M' := M_X11_seasons) (d' := 10) (as := [vI (sxs xs (i + 1))]) (st := []) (by decide +kernel) (kCVof m_X11_seasons l_L_59) rfl (by decide) (by decide) rfl _ rfl (by decide) r1 (fun v σ' q1 => ?_)
  refine L_a2 (by decide +kernel) ?_
  refine L_arg (j := 1) (by decide +kernel) (by decide +kernel) (by decide +kernel) (by decide +kernel) (by decide +kernel) hL (by omega) ?_
  refine L_callM (M' := M_X12_seasons) (d' := 11) (as := [vI (sxs xs (i + 1))]) (st := [vI v]) (by decide +kernel) (kCVof m_X12_seasons l_L_62) rfl (by decide) (by decide) rfl _ rfl (by show (1 : Nat) ≤ 8; decide) r2 (fun v' τ' q2 => ?_)
  obtain ⟨e, h'⟩ := r3 _ _ _ _ q1 q2
  subst e
  exact L_ieq (o := 1514) 2164 (by decide +kernel) (by decide) (next _ _ h')
theorem law_fault {G G' : Kg} {b L : Nat} {xs : Nat → Int32} {i : Int} {σ τ : Kmem} (hL : L ≤ 3072) (hi : 0 ≤ i ∧ i + 6 ≤ L) (h : R σ τ) (next : ∀ σ' τ' : Kmem, R σ' τ' → Lx G G' b L xs 2164 i [] σ' τ') : Lx G G' b L xs 655 i [] σ τ := by
  refine L_a1 (by decide +kernel) ?_
  refine L_arg (j := 1) (by decide +kernel) (by decide +kernel) (by decide +kernel) (by decide +kernel) (by decide +kernel) hL (by omega) ?_
  obtain ⟨Q1, Q2, r1, r2, r3⟩ := O_fault (G := G) (G' := G') (l1 := sxs xs (i + 1)) h sxs_r
  refine L_callX (M' := M_X11_fault) (d' := 0) (as := [vI (sxs xs (i + 1))]) (st := []) (by decide +kernel) (kCVof m_X11_fault l_L_63) rfl (by decide) (by decide) rfl _ rfl (by decide) r1 (fun v σ' q1 => ?_)
  refine L_a2 (by decide +kernel) ?_
  refine L_arg (j := 1) (by decide +kernel) (by decide +kernel) (by decide +kernel) (by decide +kernel) (by decide +kernel) hL (by omega) ?_
  refine L_callM (M' := M_X12_fault) (d' := 0) (as := [vI (sxs xs (i + 1))]) (st := [vI v]) (by decide +kernel) (kCVof m_X12_fault l_L_66) rfl (by decide) (by decide) rfl _ rfl (by show (1 : Nat) ≤ 8; decide) r2 (fun v' τ' q2 => ?_)
  obtain ⟨e, h'⟩ := r3 _ _ _ _ q1 q2
  subst e
  exact L_ieq (o := 1491) 2164 (by decide +kernel) (by decide) (next _ _ h')
theorem law_told {G G' : Kg} {b L : Nat} {xs : Nat → Int32} {i : Int} {σ τ : Kmem} (hL : L ≤ 3072) (hi : 0 ≤ i ∧ i + 6 ≤ L) (h : R σ τ) (next : ∀ σ' τ' : Kmem, R σ' τ' → Lx G G' b L xs 2164 i [] σ' τ') : Lx G G' b L xs 678 i [] σ τ := by
  refine L_a1 (by decide +kernel) ?_
  refine L_arg (j := 1) (by decide +kernel) (by decide +kernel) (by decide +kernel) (by decide +kernel) (by decide +kernel) hL (by omega) ?_
  obtain ⟨Q1, Q2, r1, r2, r3⟩ := O_told (G := G) (G' := G') (l1 := sxs xs (i + 1)) h sxs_r
  refine L_callX (M' := M_X11_told) (d' := 5) (as := [vI (sxs xs (i + 1))]) (st := []) (by decide +kernel) (kCVof m_X11_told l_L_67) rfl (by decide) (by decide) rfl _ rfl (by decide) r1 (fun v σ' q1 => ?_)
  refine L_a2 (by decide +kernel) ?_
  refine L_arg (j := 1) (by decide +kernel) (by decide +kernel) (by decide +kernel) (by decide +kernel) (by decide +kernel) hL (by omega) ?_
  refine L_callM (M' := M_X12_told) (d' := 5) (as := [vI (sxs xs (i + 1))]) (st := [vI v]) (by decide +kernel) (kCVof m_X12_told l_L_70) rfl (by decide) (by decide) rfl _ rfl (by show (1 : Nat) ≤ 8; decide) r2 (fun v' τ' q2 => ?_)
  obtain ⟨e, h'⟩ := r3 _ _ _ _ q1 q2
  subst e
  exact L_ieq (o := 1468) 2164 (by decide +kernel) (by decide) (next _ _ h')
theorem law_wind {G G' : Kg} {b L : Nat} {xs : Nat → Int32} {i : Int} {σ τ : Kmem} (hL : L ≤ 3072) (hi : 0 ≤ i ∧ i + 6 ≤ L) (h : R σ τ) (next : ∀ σ' τ' : Kmem, R σ' τ' → Lx G G' b L xs 2164 i [] σ' τ') : Lx G G' b L xs 701 i [] σ τ := by
  refine L_a1 (by decide +kernel) ?_
  refine L_arg (j := 1) (by decide +kernel) (by decide +kernel) (by decide +kernel) (by decide +kernel) (by decide +kernel) hL (by omega) ?_
  refine L_arg (j := 2) (by decide +kernel) (by decide +kernel) (by decide +kernel) (by decide +kernel) (by decide +kernel) hL (by omega) ?_
  obtain ⟨Q1, Q2, r1, r2, r3⟩ := O_wind (G := G) (G' := G') (l1 := sxs xs (i + 1)) (l2 := sxs xs (i + 2)) h sxs_r sxs_r
  refine L_callX (M' := M_X11_wind) (d' := 1) (as := [vI (sxs xs (i + 1)), vI (sxs xs (i + 2))]) (st := []) (by decide +kernel) (kCVof m_X11_wind l_L_71) rfl (by decide) (by decide) rfl _ rfl (by decide) r1 (fun v σ' q1 => ?_)
  refine L_a2 (by decide +kernel) ?_
  refine L_arg (j := 1) (by decide +kernel) (by decide +kernel) (by decide +kernel) (by decide +kernel) (by decide +kernel) hL (by omega) ?_
  refine L_arg (j := 2) (by decide +kernel) (by decide +kernel) (by decide +kernel) (by decide +kernel) (by decide +kernel) hL (by omega) ?_
  refine L_callM (M' := M_X12_wind) (d' := 1) (as := [vI (sxs xs (i + 1)), vI (sxs xs (i + 2))]) (st := [vI v]) (by decide +kernel) (kCVof m_X12_wind l_L_75) rfl (by decide) (by decide) rfl _ rfl (by show (1 : Nat) ≤ 8; decide) r2 (fun v' τ' q2 => ?_)
  obtain ⟨e, h'⟩ := r3 _ _ _ _ q1 q2
  subst e
  exact L_ieq (o := 1435) 2164 (by decide +kernel) (by decide) (next _ _ h')
theorem law_kite {G G' : Kg} {b L : Nat} {xs : Nat → Int32} {i : Int} {σ τ : Kmem} (hL : L ≤ 3072) (hi : 0 ≤ i ∧ i + 6 ≤ L) (h : R σ τ) (next : ∀ σ' τ' : Kmem, R σ' τ' → Lx G G' b L xs 2164 i [] σ' τ') : Lx G G' b L xs 734 i [] σ τ := by
  refine L_a1 (by decide +kernel) ?_
  refine L_arg (j := 1) (by decide +kernel) (by decide +kernel) (by decide +kernel) (by decide +kernel) (by decide +kernel) hL (by omega) ?_
  refine L_arg (j := 2) (by decide +kernel) (by decide +kernel) (by decide +kernel) (by decide +kernel) (by decide +kernel) hL (by omega) ?_
  obtain ⟨Q1, Q2, r1, r2, r3⟩ := O_kite (G := G) (G' := G') (l1 := sxs xs (i + 1)) (l2 := sxs xs (i + 2)) h sxs_r sxs_r
  refine L_callX (M' := M_X11_kite) (d' := 1) (as := [vI (sxs xs (i + 1)), vI (sxs xs (i + 2))]) (st := []) (by decide +kernel) (kCVof m_X11_kite l_L_76) rfl (by decide) (by decide) rfl _ rfl (by decide) r1 (fun v σ' q1 => ?_)
  refine L_a2 (by decide +kernel) ?_
  refine L_arg (j := 1) (by decide +kernel) (by decide +kernel) (by decide +kernel) (by decide +kernel) (by decide +kernel) hL (by omega) ?_
  refine L_arg (j := 2) (by decide +kernel) (by decide +kernel) (by decide +kernel) (by decide +kernel) (by decide +kernel) hL (by omega) ?_
  refine L_callM (M' := M_X12_kite) (d' := 2) (as := [vI (sxs xs (i + 1)), vI (sxs xs (i + 2))]) (st := [vI v]) (by decide +kernel) (kCVof m_X12_kite l_L_79) rfl (by decide) (by decide) rfl _ rfl (by show (1 : Nat) ≤ 8; decide) r2 (fun v' τ' q2 => ?_)
  obtain ⟨e, h'⟩ := r3 _ _ _ _ q1 q2
  subst e
  exact L_ieq (o := 1402) 2164 (by decide +kernel) (by decide) (next _ _ h')
theorem law_crop {G G' : Kg} {b L : Nat} {xs : Nat → Int32} {i : Int} {σ τ : Kmem} (hL : L ≤ 3072) (hi : 0 ≤ i ∧ i + 6 ≤ L) (h : R σ τ) (next : ∀ σ' τ' : Kmem, R σ' τ' → Lx G G' b L xs 2164 i [] σ' τ') : Lx G G' b L xs 767 i [] σ τ := by
  refine L_a1 (by decide +kernel) ?_
  refine L_arg (j := 1) (by decide +kernel) (by decide +kernel) (by decide +kernel) (by decide +kernel) (by decide +kernel) hL (by omega) ?_
  refine L_arg (j := 2) (by decide +kernel) (by decide +kernel) (by decide +kernel) (by decide +kernel) (by decide +kernel) hL (by omega) ?_
  obtain ⟨Q1, Q2, r1, r2, r3⟩ := O_crop (G := G) (G' := G') (l1 := sxs xs (i + 1)) (l2 := sxs xs (i + 2)) h sxs_r sxs_r
  refine L_callX (M' := M_X11_crop) (d' := 1) (as := [vI (sxs xs (i + 1)), vI (sxs xs (i + 2))]) (st := []) (by decide +kernel) (kCVof m_X11_crop l_L_80) rfl (by decide) (by decide) rfl _ rfl (by decide) r1 (fun v σ' q1 => ?_)
  refine L_a2 (by decide +kernel) ?_
  refine L_arg (j := 1) (by decide +kernel) (by decide +kernel) (by decide +kernel) (by decide +kernel) (by decide +kernel) hL (by omega) ?_
  refine L_arg (j := 2) (by decide +kernel) (by decide +kernel) (by decide +kernel) (by decide +kernel) (by decide +kernel) hL (by omega) ?_
  refine L_callM (M' := M_X12_crop) (d' := 1) (as := [vI (sxs xs (i + 1)), vI (sxs xs (i + 2))]) (st := [vI v]) (by decide +kernel) (kCVof m_X12_crop l_L_83) rfl (by decide) (by decide) rfl _ rfl (by show (1 : Nat) ≤ 8; decide) r2 (fun v' τ' q2 => ?_)
  obtain ⟨e, h'⟩ := r3 _ _ _ _ q1 q2
  subst e
  exact L_ieq (o := 1369) 2164 (by decide +kernel) (by decide) (next _ _ h')
theorem law_tenant {G G' : Kg} {b L : Nat} {xs : Nat → Int32} {i : Int} {σ τ : Kmem} (hL : L ≤ 3072) (hi : 0 ≤ i ∧ i + 6 ≤ L) (h : R σ τ) (next : ∀ σ' τ' : Kmem, R σ' τ' → Lx G G' b L xs 2164 i [] σ' τ') : Lx G G' b L xs 800 i [] σ τ := by
  refine L_a1 (by decide +kernel) ?_
  refine L_arg (j := 1) (by decide +kernel) (by decide +kernel) (by decide +kernel) (by decide +kernel) (by decide +kernel) hL (by omega) ?_
  refine L_arg (j := 2) (by decide +kernel) (by decide +kernel) (by decide +kernel) (by decide +kernel) (by decide +kernel) hL (by omega) ?_
  obtain ⟨Q1, Q2, r1, r2, r3⟩ := O_tenant (G := G) (G' := G') (l1 := sxs xs (i + 1)) (l2 := sxs xs (i + 2)) h sxs_r sxs_r
  refine L_callX (M' := M_X11_tenant) (d' := 1) (as := [vI (sxs xs (i + 1)), vI (sxs xs (i + 2))]) (st := []) (by decide +kernel) (kCVof m_X11_tenant l_L_84) rfl (by decide) (by decide) rfl _ rfl (by decide) r1 (fun v σ' q1 => ?_)
  refine L_a2 (by decide +kernel) ?_
  refine L_arg (j := 1) (by decide +kernel) (by decide +kernel) (by decide +kernel) (by decide +kernel) (by decide +kernel) hL (by omega) ?_
  refine L_arg (j := 2) (by decide +kernel) (by decide +kernel) (by decide +kernel) (by decide +kernel) (by decide +kernel) hL (by omega) ?_
  refine L_callM (M' := M_X12_tenant) (d' := 1) (as := [vI (sxs xs (i + 1)), vI (sxs xs (i + 2))]) (st := [vI v]) (by decide +kernel) (kCVof m_X12_tenant l_L_87) rfl (by decide) (by decide) rfl _ rfl (by show (1 : Nat) ≤ 8; decide) r2 (fun v' τ' q2 => ?_)
  obtain ⟨e, h'⟩ := r3 _ _ _ _ q1 q2
  subst e
  exact L_ieq (o := 1336) 2164 (by decide +kernel) (by decide) (next _ _ h')
theorem law_stands {G G' : Kg} {b L : Nat} {xs : Nat → Int32} {i : Int} {σ τ : Kmem} (hL : L ≤ 3072) (hi : 0 ≤ i ∧ i + 6 ≤ L) (h : R σ τ) (next : ∀ σ' τ' : Kmem, R σ' τ' → Lx G G' b L xs 2164 i [] σ' τ') : Lx G G' b L xs 833 i [] σ τ := by
  refine L_a1 (by decide +kernel) ?_
  refine L_arg (j := 1) (by decide +kernel) (by decide +kernel) (by decide +kernel) (by decide +kernel) (by decide +kernel) hL (by omega) ?_
  refine L_arg (j := 2) (by decide +kernel) (by decide +kernel) (by decide +kernel) (by decide +kernel) (by decide +kernel) hL (by omega) ?_
  refine L_arg (j := 3) (by decide +kernel) (by decide +kernel) (by decide +kernel) (by decide +kernel) (by decide +kernel) hL (by omega) ?_
  obtain ⟨Q1, Q2, r1, r2, r3⟩ := O_stands (G := G) (G' := G') (l1 := sxs xs (i + 1)) (l2 := sxs xs (i + 2)) (l3 := sxs xs (i + 3)) h sxs_r sxs_r sxs_r
  refine L_callX (M' := M_X11_stands) (d' := 4) (as := [vI (sxs xs (i + 1)), vI (sxs xs (i + 2)), vI (sxs xs (i + 3))]) (st := []) (by decide +kernel) (kCVof m_X11_stands l_L_88) rfl (by decide) (by decide) rfl _ rfl (by decide) r1 (fun v σ' q1 => ?_)
  refine L_a2 (by decide +kernel) ?_
  refine L_arg (j := 1) (by decide +kernel) (by decide +kernel) (by decide +kernel) (by decide +kernel) (by decide +kernel) hL (by omega) ?_
  refine L_arg (j := 2) (by decide +kernel) (by decide +kernel) (by decide +kernel) (by decide +kernel) (by decide +kernel) hL (by omega) ?_
  refine L_arg (j := 3) (by decide +kernel) (by decide +kernel) (by decide +kernel) (by decide +kernel) (by decide +kernel) hL (by omega) ?_
  refine L_callM (M' := M_X12_stands) (d' := 4) (as := [vI (sxs xs (i + 1)), vI (sxs xs (i + 2)), vI (sxs xs (i + 3))]) (st := [vI v]) (by decide +kernel) (kCVof m_X12_stands l_L_92) rfl (by decide) (by decide) rfl _ rfl (by show (1 : Nat) ≤ 8; decide) r2 (fun v' τ' q2 => ?_)
  obtain ⟨e, h'⟩ := r3 _ _ _ _ q1 q2
  subst e
  exact L_ieq (o := 1293) 2164 (by decide +kernel) (by decide) (next _ _ h')
theorem law_owner {G G' : Kg} {b L : Nat} {xs : Nat → Int32} {i : Int} {σ τ : Kmem} (hL : L ≤ 3072) (hi : 0 ≤ i ∧ i + 6 ≤ L) (h : R σ τ) (next : ∀ σ' τ' : Kmem, R σ' τ' → Lx G G' b L xs 2164 i [] σ' τ') : Lx G G' b L xs 876 i [] σ τ := by
  refine L_a1 (by decide +kernel) ?_
  refine L_arg (j := 1) (by decide +kernel) (by decide +kernel) (by decide +kernel) (by decide +kernel) (by decide +kernel) hL (by omega) ?_
  refine L_arg (j := 2) (by decide +kernel) (by decide +kernel) (by decide +kernel) (by decide +kernel) (by decide +kernel) hL (by omega) ?_
  refine L_arg (j := 3) (by decide +kernel) (by decide +kernel) (by decide +kernel) (by decide +kernel) (by decide +kernel) hL (by omega) ?_
  obtain ⟨Q1, Q2, r1, r2, r3⟩ := O_owner (G := G) (G' := G') (l1 := sxs xs (i + 1)) (l2 := sxs xs (i + 2)) (l3 := sxs xs (i + 3)) h sxs_r sxs_r sxs_r
  refine L_callX (M' := M_X11_owner) (d' := 4) (as := [vI (sxs xs (i + 1)), vI (sxs xs (i + 2)), vI (sxs xs (i + 3))]) (st := []) (by decide +kernel) (kCVof m_X11_owner l_L_93) rfl (by decide) (by decide) rfl _ rfl (by decide) r1 (fun v σ' q1 => ?_)
  refine L_a2 (by decide +kernel) ?_
  refine L_arg (j := 1) (by decide +kernel) (by decide +kernel) (by decide +kernel) (by decide +kernel) (by decide +kernel) hL (by omega) ?_
  refine L_arg (j := 2) (by decide +kernel) (by decide +kernel) (by decide +kernel) (by decide +kernel) (by decide +kernel) hL (by omega) ?_
  refine L_arg (j := 3) (by decide +kernel) (by decide +kernel) (by decide +kernel) (by decide +kernel) (by decide +kernel) hL (by omega) ?_
  refine L_callM (M' := M_X12_owner) (d' := 7) (as := [vI (sxs xs (i + 1)), vI (sxs xs (i + 2)), vI (sxs xs (i + 3))]) (st := [vI v]) (by decide +kernel) (kCVof m_X12_owner l_L_96) rfl (by decide) (by decide) rfl _ rfl (by show (1 : Nat) ≤ 8; decide) r2 (fun v' τ' q2 => ?_)
  obtain ⟨e, h'⟩ := r3 _ _ _ _ q1 q2
  subst e
  exact L_ieq (o := 1250) 2164 (by decide +kernel) (by decide) (next _ _ h')
theorem law_shaders {G G' : Kg} {b L : Nat} {xs : Nat → Int32} {i : Int} {σ τ : Kmem} (hL : L ≤ 3072) (hi : 0 ≤ i ∧ i + 6 ≤ L) (h : R σ τ) (next : ∀ σ' τ' : Kmem, R σ' τ' → Lx G G' b L xs 2164 i [] σ' τ') : Lx G G' b L xs 919 i [] σ τ := by
  refine L_a1 (by decide +kernel) ?_
  refine L_arg (j := 1) (by decide +kernel) (by decide +kernel) (by decide +kernel) (by decide +kernel) (by decide +kernel) hL (by omega) ?_
  refine L_arg (j := 2) (by decide +kernel) (by decide +kernel) (by decide +kernel) (by decide +kernel) (by decide +kernel) hL (by omega) ?_
  refine L_arg (j := 3) (by decide +kernel) (by decide +kernel) (by decide +kernel) (by decide +kernel) (by decide +kernel) hL (by omega) ?_
  obtain ⟨Q1, Q2, r1, r2, r3⟩ := O_shaders (G := G) (G' := G') (l1 := sxs xs (i + 1)) (l2 := sxs xs (i + 2)) (l3 := sxs xs (i + 3)) h sxs_r sxs_r sxs_r
  refine L_callX (M' := M_X11_shaders) (d' := 4) (as := [vI (sxs xs (i + 1)), vI (sxs xs (i + 2)), vI (sxs xs (i + 3))]) (st := []) (by decide +kernel) (kCVof m_X11_shaders l_L_97) rfl (by decide) (by decide) rfl _ rfl (by decide) r1 (fun v σ' q1 => ?_)
  refine L_a2 (by decide +kernel) ?_
  refine L_arg (j := 1) (by decide +kernel) (by decide +kernel) (by decide +kernel) (by decide +kernel) (by decide +kernel) hL (by omega) ?_
  refine L_arg (j := 2) (by decide +kernel) (by decide +kernel) (by decide +kernel) (by decide +kernel) (by decide +kernel) hL (by omega) ?_
  refine L_arg (j := 3) (by decide +kernel) (by decide +kernel) (by decide +kernel) (by decide +kernel) (by decide +kernel) hL (by omega) ?_
  refine L_callM (M' := M_X12_shaders) (d' := 6) (as := [vI (sxs xs (i + 1)), vI (sxs xs (i + 2)), vI (sxs xs (i + 3))]) (st := [vI v]) (by decide +kernel) (kCVof m_X12_shaders l_L_100) rfl (by decide) (by decide) rfl _ rfl (by show (1 : Nat) ≤ 8; decide) r2 (fun v' τ' q2 => ?_)
  obtain ⟨e, h'⟩ := r3 _ _ _ _ q1 q2
  subst e
  exact L_ieq (o := 1207) 2164 (by decide +kernel) (by decide) (next _ _ h')
theorem law_estate {G G' : Kg} {b L : Nat} {xs : Nat → Int32} {i : Int} {σ τ : Kmem} (hL : L ≤ 3072) (hi : 0 ≤ i ∧ i + 6 ≤ L) (h : R σ τ) (next : ∀ σ' τ' : Kmem, R σ' τ' → Lx G G' b L xs 2164 i [] σ' τ') : Lx G G' b L xs 962 i [] σ τ := by
  refine L_a1 (by decide +kernel) ?_
  refine L_arg (j := 1) (by decide +kernel) (by decide +kernel) (by decide +kernel) (by decide +kernel) (by decide +kernel) hL (by omega) ?_
  refine L_arg (j := 2) (by decide +kernel) (by decide +kernel) (by decide +kernel) (by decide +kernel) (by decide +kernel) hL (by omega) ?_
  obtain ⟨Q1, Q2, r1, r2, r3⟩ := O_estate (G := G) (G' := G') (l1 := sxs xs (i + 1)) (l2 := sxs xs (i + 2)) h sxs_r sxs_r
  refine L_callX (M' := M_X11_estate) (d' := 4) (as := [vI (sxs xs (i + 1)), vI (sxs xs (i + 2))]) (st := []) (by decide +kernel) (kCVof m_X11_estate l_L_101) rfl (by decide) (by decide) rfl _ rfl (by decide) r1 (fun v σ' q1 => ?_)
  refine L_a2 (by decide +kernel) ?_
  refine L_arg (j := 1) (by decide +kernel) (by decide +kernel) (by decide +kernel) (by decide +kernel) (by decide +kernel) hL (by omega) ?_
  refine L_arg (j := 2) (by decide +kernel) (by decide +kernel) (by decide +kernel) (by decide +kernel) (by decide +kernel) hL (by omega) ?_
  refine L_callM (M' := M_X12_estate) (d' := 8) (as := [vI (sxs xs (i + 1)), vI (sxs xs (i + 2))]) (st := [vI v]) (by decide +kernel) (kCVof m_X12_estate l_L_104) rfl (by decide) (by decide) rfl _ rfl (by show (1 : Nat) ≤ 8; decide) r2 (fun v' τ' q2 => ?_)
  obtain ⟨e, h'⟩ := r3 _ _ _ _ q1 q2
  subst e
  exact L_ieq (o := 1174) 2164 (by decide +kernel) (by decide) (next _ _ h')
theorem law_nobodys {G G' : Kg} {b L : Nat} {xs : Nat → Int32} {i : Int} {σ τ : Kmem} (hL : L ≤ 3072) (hi : 0 ≤ i ∧ i + 6 ≤ L) (h : R σ τ) (next : ∀ σ' τ' : Kmem, R σ' τ' → Lx G G' b L xs 2164 i [] σ' τ') : Lx G G' b L xs 995 i [] σ τ := by
  refine L_a1 (by decide +kernel) ?_
  refine L_arg (j := 1) (by decide +kernel) (by decide +kernel) (by decide +kernel) (by decide +kernel) (by decide +kernel) hL (by omega) ?_
  obtain ⟨Q1, Q2, r1, r2, r3⟩ := O_nobodys (G := G) (G' := G') (l1 := sxs xs (i + 1)) h sxs_r
  refine L_callX (M' := M_X11_nobodys) (d' := 4) (as := [vI (sxs xs (i + 1))]) (st := []) (by decide +kernel) (kCVof m_X11_nobodys l_L_105) rfl (by decide) (by decide) rfl _ rfl (by decide) r1 (fun v σ' q1 => ?_)
  refine L_a2 (by decide +kernel) ?_
  refine L_arg (j := 1) (by decide +kernel) (by decide +kernel) (by decide +kernel) (by decide +kernel) (by decide +kernel) hL (by omega) ?_
  refine L_callM (M' := M_X12_nobodys) (d' := 8) (as := [vI (sxs xs (i + 1))]) (st := [vI v]) (by decide +kernel) (kCVof m_X12_nobodys l_L_108) rfl (by decide) (by decide) rfl _ rfl (by show (1 : Nat) ≤ 8; decide) r2 (fun v' τ' q2 => ?_)
  obtain ⟨e, h'⟩ := r3 _ _ _ _ q1 q2
  subst e
  exact L_ieq (o := 1151) 2164 (by decide +kernel) (by decide) (next _ _ h')
theorem law_disputed {G G' : Kg} {b L : Nat} {xs : Nat → Int32} {i : Int} {σ τ : Kmem} (hL : L ≤ 3072) (hi : 0 ≤ i ∧ i + 6 ≤ L) (h : R σ τ) (next : ∀ σ' τ' : Kmem, R σ' τ' → Lx G G' b L xs 2164 i [] σ' τ') : Lx G G' b L xs 1018 i [] σ τ := by
  refine L_a1 (by decide +kernel) ?_
  refine L_arg (j := 1) (by decide +kernel) (by decide +kernel) (by decide +kernel) (by decide +kernel) (by decide +kernel) hL (by omega) ?_
  obtain ⟨Q1, Q2, r1, r2, r3⟩ := O_disputed (G := G) (G' := G') (l1 := sxs xs (i + 1)) h sxs_r
  refine L_callX (M' := M_X11_disputed) (d' := 4) (as := [vI (sxs xs (i + 1))]) (st := []) (by decide +kernel) (kCVof m_X11_disputed l_L_109) rfl (by decide) (by decide) rfl _ rfl (by decide) r1 (fun v σ' q1 => ?_)
  refine L_a2 (by decide +kernel) ?_
  refine L_arg (j := 1) (by decide +kernel) (by decide +kernel) (by decide +kernel) (by decide +kernel) (by decide +kernel) hL (by omega) ?_
  refine L_callM (M' := M_X12_disputed) (d' := 6) (as := [vI (sxs xs (i + 1))]) (st := [vI v]) (by decide +kernel) (kCVof m_X12_disputed l_L_112) rfl (by decide) (by decide) rfl _ rfl (by show (1 : Nat) ≤ 8; decide) r2 (fun v' τ' q2 => ?_)
  obtain ⟨e, h'⟩ := r3 _ _ _ _ q1 q2
  subst e
  exact L_ieq (o := 1128) 2164 (by decide +kernel) (by decide) (next _ _ h')
theorem law_crosses {G G' : Kg} {b L : Nat} {xs : Nat → Int32} {i : Int} {σ τ : Kmem} (hL : L ≤ 3072) (hi : 0 ≤ i ∧ i + 6 ≤ L) (h : R σ τ) (next : ∀ σ' τ' : Kmem, R σ' τ' → Lx G G' b L xs 2164 i [] σ' τ') : Lx G G' b L xs 1041 i [] σ τ := by
  refine L_a1 (by decide +kernel) ?_
  refine L_arg (j := 1) (by decide +kernel) (by decide +kernel) (by decide +kernel) (by decide +kernel) (by decide +kernel) hL (by omega) ?_
  refine L_arg (j := 2) (by decide +kernel) (by decide +kernel) (by decide +kernel) (by decide +kernel) (by decide +kernel) hL (by omega) ?_
  refine L_arg (j := 3) (by decide +kernel) (by decide +kernel) (by decide +kernel) (by decide +kernel) (by decide +kernel) hL (by omega) ?_
  obtain ⟨Q1, Q2, r1, r2, r3⟩ := O_crosses (G := G) (G' := G') (l1 := sxs xs (i + 1)) (l2 := sxs xs (i + 2)) (l3 := sxs xs (i + 3)) h sxs_r sxs_r sxs_r
  refine L_callX (M' := M_X11_crosses) (d' := 4) (as := [vI (sxs xs (i + 1)), vI (sxs xs (i + 2)), vI (sxs xs (i + 3))]) (st := []) (by decide +kernel) (kCVof m_X11_crosses l_L_113) rfl (by decide) (by decide) rfl _ rfl (by decide) r1 (fun v σ' q1 => ?_)
  refine L_a2 (by decide +kernel) ?_
  refine L_arg (j := 1) (by decide +kernel) (by decide +kernel) (by decide +kernel) (by decide +kernel) (by decide +kernel) hL (by omega) ?_
  refine L_arg (j := 2) (by decide +kernel) (by decide +kernel) (by decide +kernel) (by decide +kernel) (by decide +kernel) hL (by omega) ?_
  refine L_arg (j := 3) (by decide +kernel) (by decide +kernel) (by decide +kernel) (by decide +kernel) (by decide +kernel) hL (by omega) ?_
  refine L_callM (M' := M_X12_crosses) (d' := 6) (as := [vI (sxs xs (i + 1)), vI (sxs xs (i + 2)), vI (sxs xs (i + 3))]) (st := [vI v]) (by decide +kernel) (kCVof m_X12_crosses l_L_116) rfl (by decide) (by decide) rfl _ rfl (by show (1 : Nat) ≤ 8; decide) r2 (fun v' τ' q2 => ?_)
  obtain ⟨e, h'⟩ := r3 _ _ _ _ q1 q2
  subst e
  exact L_ieq (o := 1085) 2164 (by decide +kernel) (by decide) (next _ _ h')
theorem law_doomed {G G' : Kg} {b L : Nat} {xs : Nat → Int32} {i : Int} {σ τ : Kmem} (hL : L ≤ 3072) (hi : 0 ≤ i ∧ i + 6 ≤ L) (h : R σ τ) (next : ∀ σ' τ' : Kmem, R σ' τ' → Lx G G' b L xs 2164 i [] σ' τ') : Lx G G' b L xs 1084 i [] σ τ := by
  refine L_a1 (by decide +kernel) ?_
  obtain ⟨Q1, Q2, r1, r2, r3⟩ := O_doomed (G := G) (G' := G')  h
  refine L_callX (M' := M_X11_doomed) (d' := 5) (as := []) (st := []) (by decide +kernel) (kCVof m_X11_doomed l_L_117) rfl (by decide) (by decide) rfl _ rfl (by decide) r1 (fun v σ' q1 => ?_)
  refine L_a2 (by decide +kernel) ?_
  refine L_callM (M' := M_X12_doomed) (d' := 7) (as := []) (st := [vI v]) (by decide +kernel) (kCVof m_X12_doomed l_L_120) rfl (by decide) (by decide) rfl _ rfl (by show (1 : Nat) ≤ 8; decide) r2 (fun v' τ' q2 => ?_)
  obtain ⟨e, h'⟩ := r3 _ _ _ _ q1 q2
  subst e
  exact L_ieq (o := 1072) 2164 (by decide +kernel) (by decide) (next _ _ h')
theorem law_lulls {G G' : Kg} {b L : Nat} {xs : Nat → Int32} {i : Int} {σ τ : Kmem} (hL : L ≤ 3072) (hi : 0 ≤ i ∧ i + 6 ≤ L) (h : R σ τ) (next : ∀ σ' τ' : Kmem, R σ' τ' → Lx G G' b L xs 2164 i [] σ' τ') : Lx G G' b L xs 1097 i [] σ τ := by
  refine L_a1 (by decide +kernel) ?_
  refine L_arg (j := 1) (by decide +kernel) (by decide +kernel) (by decide +kernel) (by decide +kernel) (by decide +kernel) hL (by omega) ?_
  obtain ⟨Q1, Q2, r1, r2, r3⟩ := O_lulls (G := G) (G' := G') (l1 := sxs xs (i + 1)) h sxs_r
  refine L_callX (M' := M_X11_lulls) (d' := 1) (as := [vI (sxs xs (i + 1))]) (st := []) (by decide +kernel) (kCVof m_X11_lulls l_L_121) rfl (by decide) (by decide) rfl _ rfl (by decide) r1 (fun v σ' q1 => ?_)
  refine L_a2 (by decide +kernel) ?_
  refine L_arg (j := 1) (by decide +kernel) (by decide +kernel) (by decide +kernel) (by decide +kernel) (by decide +kernel) hL (by omega) ?_
  refine L_callM (M' := M_X12_lulls) (d' := 3) (as := [vI (sxs xs (i + 1))]) (st := [vI v]) (by decide +kernel) (kCVof m_X12_lulls l_L_124) rfl (by decide) (by decide) rfl _ rfl (by show (1 : Nat) ≤ 8; decide) r2 (fun v' τ' q2 => ?_)
  obtain ⟨e, h'⟩ := r3 _ _ _ _ q1 q2
  subst e
  exact L_ieq (o := 1049) 2164 (by decide +kernel) (by decide) (next _ _ h')
theorem law_busiest {G G' : Kg} {b L : Nat} {xs : Nat → Int32} {i : Int} {σ τ : Kmem} (hL : L ≤ 3072) (hi : 0 ≤ i ∧ i + 6 ≤ L) (h : R σ τ) (next : ∀ σ' τ' : Kmem, R σ' τ' → Lx G G' b L xs 2164 i [] σ' τ') : Lx G G' b L xs 1120 i [] σ τ := by
  refine L_a1 (by decide +kernel) ?_
  obtain ⟨Q1, Q2, r1, r2, r3⟩ := O_busiest (G := G) (G' := G')  h
  refine L_callX (M' := M_X11_busiest) (d' := 4) (as := []) (st := []) (by decide +kernel) (kCVof m_X11_busiest l_L_125) rfl (by decide) (by decide) rfl _ rfl (by decide) r1 (fun v σ' q1 => ?_)
  refine L_a2 (by decide +kernel) ?_
  refine L_callM (M' := M_X12_busiest) (d' := 8) (as := []) (st := [vI v]) (by decide +kernel) (kCVof m_X12_busiest l_L_128) rfl (by decide) (by decide) rfl _ rfl (by show (1 : Nat) ≤ 8; decide) r2 (fun v' τ' q2 => ?_)
  obtain ⟨e, h'⟩ := r3 _ _ _ _ q1 q2
  subst e
  exact L_ieq (o := 1036) 2164 (by decide +kernel) (by decide) (next _ _ h')
theorem law_greatest {G G' : Kg} {b L : Nat} {xs : Nat → Int32} {i : Int} {σ τ : Kmem} (hL : L ≤ 3072) (hi : 0 ≤ i ∧ i + 6 ≤ L) (h : R σ τ) (next : ∀ σ' τ' : Kmem, R σ' τ' → Lx G G' b L xs 2164 i [] σ' τ') : Lx G G' b L xs 1133 i [] σ τ := by
  refine L_a1 (by decide +kernel) ?_
  obtain ⟨Q1, Q2, r1, r2, r3⟩ := O_greatest (G := G) (G' := G')  h
  refine L_callX (M' := M_X11_greatest) (d' := 5) (as := []) (st := []) (by decide +kernel) (kCVof m_X11_greatest l_L_129) rfl (by decide) (by decide) rfl _ rfl (by decide) r1 (fun v σ' q1 => ?_)
  refine L_a2 (by decide +kernel) ?_
  refine L_callM (M' := M_X12_greatest) (d' := 8) (as := []) (st := [vI v]) (by decide +kernel) (kCVof m_X12_greatest l_L_132) rfl (by decide) (by decide) rfl _ rfl (by show (1 : Nat) ≤ 8; decide) r2 (fun v' τ' q2 => ?_)
  obtain ⟨e, h'⟩ := r3 _ _ _ _ q1 q2
  subst e
  exact L_ieq (o := 1023) 2164 (by decide +kernel) (by decide) (next _ _ h')
theorem law_hour {G G' : Kg} {b L : Nat} {xs : Nat → Int32} {i : Int} {σ τ : Kmem} (hL : L ≤ 3072) (hi : 0 ≤ i ∧ i + 6 ≤ L) (h : R σ τ) (next : ∀ σ' τ' : Kmem, R σ' τ' → Lx G G' b L xs 2164 i [] σ' τ') : Lx G G' b L xs 1146 i [] σ τ := by
  refine L_a1 (by decide +kernel) ?_
  refine L_arg (j := 1) (by decide +kernel) (by decide +kernel) (by decide +kernel) (by decide +kernel) (by decide +kernel) hL (by omega) ?_
  obtain ⟨Q1, Q2, r1, r2, r3⟩ := O_hour (G := G) (G' := G') (l1 := sxs xs (i + 1)) h sxs_r
  refine L_callX (M' := M_X11_hour) (d' := 5) (as := [vI (sxs xs (i + 1))]) (st := []) (by decide +kernel) (kCVof m_X11_hour l_L_133) rfl (by decide) (by decide) rfl _ rfl (by decide) r1 (fun v σ' q1 => ?_)
  refine L_a2 (by decide +kernel) ?_
  refine L_arg (j := 1) (by decide +kernel) (by decide +kernel) (by decide +kernel) (by decide +kernel) (by decide +kernel) hL (by omega) ?_
  refine L_callM (M' := M_X12_hour) (d' := 9) (as := [vI (sxs xs (i + 1))]) (st := [vI v]) (by decide +kernel) (kCVof m_X12_hour l_L_136) rfl (by decide) (by decide) rfl _ rfl (by show (1 : Nat) ≤ 8; decide) r2 (fun v' τ' q2 => ?_)
  obtain ⟨e, h'⟩ := r3 _ _ _ _ q1 q2
  subst e
  exact L_ieq (o := 1000) 2164 (by decide +kernel) (by decide) (next _ _ h')
theorem law_walk {G G' : Kg} {b L : Nat} {xs : Nat → Int32} {i : Int} {σ τ : Kmem} (hL : L ≤ 3072) (hi : 0 ≤ i ∧ i + 6 ≤ L) (h : R σ τ) (next : ∀ σ' τ' : Kmem, R σ' τ' → Lx G G' b L xs 2164 i [] σ' τ') : Lx G G' b L xs 1169 i [] σ τ := by
  refine L_a1 (by decide +kernel) ?_
  refine L_arg (j := 1) (by decide +kernel) (by decide +kernel) (by decide +kernel) (by decide +kernel) (by decide +kernel) hL (by omega) ?_
  refine L_arg (j := 2) (by decide +kernel) (by decide +kernel) (by decide +kernel) (by decide +kernel) (by decide +kernel) hL (by omega) ?_
  obtain ⟨Q1, Q2, r1, r2, r3⟩ := O_walk (G := G) (G' := G') (l1 := sxs xs (i + 1)) (l2 := sxs xs (i + 2)) h sxs_r sxs_r
  refine L_callX (M' := M_X11_walk) (d' := 3) (as := [vI (sxs xs (i + 1)), vI (sxs xs (i + 2))]) (st := []) (by decide +kernel) (kCVof m_X11_walk l_L_137) rfl (by decide) (by decide) rfl _ rfl (by decide) r1 (fun v σ' q1 => ?_)
  refine L_a2 (by decide +kernel) ?_
  refine L_arg (j := 1) (by decide +kernel) (by decide +kernel) (by decide +kernel) (by decide +kernel) (by decide +kernel) hL (by omega) ?_
  refine L_arg (j := 2) (by decide +kernel) (by decide +kernel) (by decide +kernel) (by decide +kernel) (by decide +kernel) hL (by omega) ?_
  refine L_callM (M' := M_X12_walk) (d' := 3) (as := [vI (sxs xs (i + 1)), vI (sxs xs (i + 2))]) (st := [vI v]) (by decide +kernel) (kCVof m_X12_walk l_L_140) rfl (by decide) (by decide) rfl _ rfl (by show (1 : Nat) ≤ 8; decide) r2 (fun v' τ' q2 => ?_)
  obtain ⟨e, h'⟩ := r3 _ _ _ _ q1 q2
  subst e
  exact L_ieq (o := 967) 2164 (by decide +kernel) (by decide) (next _ _ h')
theorem law_cut {G G' : Kg} {b L : Nat} {xs : Nat → Int32} {i : Int} {σ τ : Kmem} (hL : L ≤ 3072) (hi : 0 ≤ i ∧ i + 6 ≤ L) (h : R σ τ) (next : ∀ σ' τ' : Kmem, R σ' τ' → Lx G G' b L xs 2164 i [] σ' τ') : Lx G G' b L xs 1202 i [] σ τ := by
  refine L_a1 (by decide +kernel) ?_
  refine L_arg (j := 1) (by decide +kernel) (by decide +kernel) (by decide +kernel) (by decide +kernel) (by decide +kernel) hL (by omega) ?_
  refine L_arg (j := 2) (by decide +kernel) (by decide +kernel) (by decide +kernel) (by decide +kernel) (by decide +kernel) hL (by omega) ?_
  refine L_ne0 (o1 := 7) (o2 := 4) (by decide +kernel) (by decide +kernel) (by decide +kernel) (by decide +kernel) (by decide) (by decide) sxs_r ?_
  obtain ⟨Q1, Q2, r1, r2, r3⟩ := O_cut (G := G) (G' := G') (l1 := sxs xs (i + 1)) (l2 := kb (sxs xs (i + 2) ≠ 0)) h sxs_r (kb_01 _)
  refine L_callX (M' := M_X11_cut) (d' := 1) (as := [vI (sxs xs (i + 1)), vI (kb (sxs xs (i + 2) ≠ 0))]) (st := []) (by decide +kernel) (kCVof m_X11_cut l_L_141) rfl (by decide) (by decide) rfl _ rfl (by decide) r1 (fun v σ' q1 => ?_)
  refine L_a2 (by decide +kernel) ?_
  refine L_arg (j := 1) (by decide +kernel) (by decide +kernel) (by decide +kernel) (by decide +kernel) (by decide +kernel) hL (by omega) ?_
  refine L_arg (j := 2) (by decide +kernel) (by decide +kernel) (by decide +kernel) (by decide +kernel) (by decide +kernel) hL (by omega) ?_
  refine L_ne0 (o1 := 7) (o2 := 4) (by decide +kernel) (by decide +kernel) (by decide +kernel) (by decide +kernel) (by decide) (by decide) sxs_r ?_
  refine L_callM (M' := M_X12_cut) (d' := 4) (as := [vI (sxs xs (i + 1)), vI (kb (sxs xs (i + 2) ≠ 0))]) (st := [vI v]) (by decide +kernel) (kCVof m_X12_cut l_L_145) rfl (by decide) (by decide) rfl _ rfl (by show (1 : Nat) ≤ 8; decide) r2 (fun v' τ' q2 => ?_)
  obtain ⟨e, h'⟩ := r3 _ _ _ _ q1 q2
  subst e
  exact L_ieq (o := 918) 2164 (by decide +kernel) (by decide) (next _ _ h')
theorem law_sell {G G' : Kg} {b L : Nat} {xs : Nat → Int32} {i : Int} {σ τ : Kmem} (hL : L ≤ 3072) (hi : 0 ≤ i ∧ i + 6 ≤ L) (h : R σ τ) (next : ∀ σ' τ' : Kmem, R σ' τ' → Lx G G' b L xs 2164 i [] σ' τ') : Lx G G' b L xs 1251 i [] σ τ := by
  refine L_a1 (by decide +kernel) ?_
  refine L_arg (j := 1) (by decide +kernel) (by decide +kernel) (by decide +kernel) (by decide +kernel) (by decide +kernel) hL (by omega) ?_
  refine L_arg (j := 2) (by decide +kernel) (by decide +kernel) (by decide +kernel) (by decide +kernel) (by decide +kernel) hL (by omega) ?_
  obtain ⟨Q1, Q2, r1, r2, r3⟩ := O_sell (G := G) (G' := G') (l1 := sxs xs (i + 1)) (l2 := sxs xs (i + 2)) h sxs_r sxs_r
  refine L_callX (M' := M_X11_sell) (d' := 1) (as := [vI (sxs xs (i + 1)), vI (sxs xs (i + 2))]) (st := []) (by decide +kernel) (kCVof m_X11_sell l_L_146) rfl (by decide) (by decide) rfl _ rfl (by decide) r1 (fun v σ' q1 => ?_)
  refine L_a2 (by decide +kernel) ?_
  refine L_arg (j := 1) (by decide +kernel) (by decide +kernel) (by decide +kernel) (by decide +kernel) (by decide +kernel) hL (by omega) ?_
  refine L_arg (j := 2) (by decide +kernel) (by decide +kernel) (by decide +kernel) (by decide +kernel) (by decide +kernel) hL (by omega) ?_
  refine L_callM (M' := M_X12_sell) (d' := 2) (as := [vI (sxs xs (i + 1)), vI (sxs xs (i + 2))]) (st := [vI v]) (by decide +kernel) (kCVof m_X12_sell l_L_149) rfl (by decide) (by decide) rfl _ rfl (by show (1 : Nat) ≤ 8; decide) r2 (fun v' τ' q2 => ?_)
  obtain ⟨e, h'⟩ := r3 _ _ _ _ q1 q2
  subst e
  exact L_ieq (o := 885) 2164 (by decide +kernel) (by decide) (next _ _ h')
theorem law_blow {G G' : Kg} {b L : Nat} {xs : Nat → Int32} {i : Int} {σ τ : Kmem} (hL : L ≤ 3072) (hi : 0 ≤ i ∧ i + 6 ≤ L) (h : R σ τ) (next : ∀ σ' τ' : Kmem, R σ' τ' → Lx G G' b L xs 2164 i [] σ' τ') : Lx G G' b L xs 1284 i [] σ τ := by
  refine L_a1 (by decide +kernel) ?_
  refine L_arg (j := 1) (by decide +kernel) (by decide +kernel) (by decide +kernel) (by decide +kernel) (by decide +kernel) hL (by omega) ?_
  refine L_arg (j := 2) (by decide +kernel) (by decide +kernel) (by decide +kernel) (by decide +kernel) (by decide +kernel) hL (by omega) ?_
  refine L_arg (j := 3) (by decide +kernel) (by decide +kernel) (by decide +kernel) (by decide +kernel) (by decide +kernel) hL (by omega) ?_
  obtain ⟨Q1, Q2, r1, r2, r3⟩ := O_blow (G := G) (G' := G') (l1 := sxs xs (i + 1)) (l2 := sxs xs (i + 2)) (l3 := sxs xs (i + 3)) h sxs_r sxs_r sxs_r
  refine L_callX (M' := M_X11_blow) (d' := 1) (as := [vI (sxs xs (i + 1)), vI (sxs xs (i + 2)), vI (sxs xs (i + 3))]) (st := []) (by decide +kernel) (kCVof m_X11_blow l_L_150) rfl (by decide) (by decide) rfl _ rfl (by decide) r1 (fun v σ' q1 => ?_)
  refine L_a2 (by decide +kernel) ?_
  refine L_arg (j := 1) (by decide +kernel) (by decide +kernel) (by decide +kernel) (by decide +kernel) (by decide +kernel) hL (by omega) ?_
  refine L_arg (j := 2) (by decide +kernel) (by decide +kernel) (by decide +kernel) (by decide +kernel) (by decide +kernel) hL (by omega) ?_
  refine L_arg (j := 3) (by decide +kernel) (by decide +kernel) (by decide +kernel) (by decide +kernel) (by decide +kernel) hL (by omega) ?_
  refine L_callM (M' := M_X12_blow) (d' := 1) (as := [vI (sxs xs (i + 1)), vI (sxs xs (i + 2)), vI (sxs xs (i + 3))]) (st := [vI v]) (by decide +kernel) (kCVof m_X12_blow l_L_153) rfl (by decide) (by decide) rfl _ rfl (by show (1 : Nat) ≤ 8; decide) r2 (fun v' τ' q2 => ?_)
  obtain ⟨e, h'⟩ := r3 _ _ _ _ q1 q2
  subst e
  exact L_ieq (o := 842) 2164 (by decide +kernel) (by decide) (next _ _ h')
theorem law_rule {G G' : Kg} {b L : Nat} {xs : Nat → Int32} {i : Int} {σ τ : Kmem} (hL : L ≤ 3072) (hi : 0 ≤ i ∧ i + 6 ≤ L) (h : R σ τ) (next : ∀ σ' τ' : Kmem, R σ' τ' → Lx G G' b L xs 2164 i [] σ' τ') : Lx G G' b L xs 1327 i [] σ τ := by
  refine L_a1 (by decide +kernel) ?_
  refine L_arg (j := 1) (by decide +kernel) (by decide +kernel) (by decide +kernel) (by decide +kernel) (by decide +kernel) hL (by omega) ?_
  obtain ⟨Q1, Q2, r1, r2, r3⟩ := O_rule (G := G) (G' := G') (l1 := sxs xs (i + 1)) h sxs_r
  refine L_callX (M' := M_X11_rule) (d' := 1) (as := [vI (sxs xs (i + 1))]) (st := []) (by decide +kernel) (kCVof m_X11_rule l_L_154) rfl (by decide) (by decide) rfl _ rfl (by decide) r1 (fun v σ' q1 => ?_)
  refine L_a2 (by decide +kernel) ?_
  refine L_arg (j := 1) (by decide +kernel) (by decide +kernel) (by decide +kernel) (by decide +kernel) (by decide +kernel) hL (by omega) ?_
  refine L_callM (M' := M_X12_rule) (d' := 1) (as := [vI (sxs xs (i + 1))]) (st := [vI v]) (by decide +kernel) (kCVof m_X12_rule l_L_158) rfl (by decide) (by decide) rfl _ rfl (by show (1 : Nat) ≤ 8; decide) r2 (fun v' τ' q2 => ?_)
  obtain ⟨e, h'⟩ := r3 _ _ _ _ q1 q2
  subst e
  exact L_ieq (o := 819) 2164 (by decide +kernel) (by decide) (next _ _ h')
theorem law_lease {G G' : Kg} {b L : Nat} {xs : Nat → Int32} {i : Int} {σ τ : Kmem} (hL : L ≤ 3072) (hi : 0 ≤ i ∧ i + 6 ≤ L) (h : R σ τ) (next : ∀ σ' τ' : Kmem, R σ' τ' → Lx G G' b L xs 2164 i [] σ' τ') : Lx G G' b L xs 1350 i [] σ τ := by
  refine L_a1 (by decide +kernel) ?_
  refine L_arg (j := 1) (by decide +kernel) (by decide +kernel) (by decide +kernel) (by decide +kernel) (by decide +kernel) hL (by omega) ?_
  refine L_arg (j := 2) (by decide +kernel) (by decide +kernel) (by decide +kernel) (by decide +kernel) (by decide +kernel) hL (by omega) ?_
  obtain ⟨Q1, Q2, r1, r2, r3⟩ := O_lease (G := G) (G' := G') (l1 := sxs xs (i + 1)) (l2 := sxs xs (i + 2)) h sxs_r sxs_r
  refine L_callX (M' := M_X11_lease) (d' := 1) (as := [vI (sxs xs (i + 1)), vI (sxs xs (i + 2))]) (st := []) (by decide +kernel) (kCVof m_X11_lease l_L_159) rfl (by decide) (by decide) rfl _ rfl (by decide) r1 (fun v σ' q1 => ?_)
  refine L_a2 (by decide +kernel) ?_
  refine L_arg (j := 1) (by decide +kernel) (by decide +kernel) (by decide +kernel) (by decide +kernel) (by decide +kernel) hL (by omega) ?_
  refine L_arg (j := 2) (by decide +kernel) (by decide +kernel) (by decide +kernel) (by decide +kernel) (by decide +kernel) hL (by omega) ?_
  refine L_callM (M' := M_X12_lease) (d' := 1) (as := [vI (sxs xs (i + 1)), vI (sxs xs (i + 2))]) (st := [vI v]) (by decide +kernel) (kCVof m_X12_lease l_L_163) rfl (by decide) (by decide) rfl _ rfl (by show (1 : Nat) ≤ 8; decide) r2 (fun v' τ' q2 => ?_)
  obtain ⟨e, h'⟩ := r3 _ _ _ _ q1 q2
  subst e
  exact L_ieq (o := 786) 2164 (by decide +kernel) (by decide) (next _ _ h')
theorem law_reap {G G' : Kg} {b L : Nat} {xs : Nat → Int32} {i : Int} {σ τ : Kmem} (hL : L ≤ 3072) (hi : 0 ≤ i ∧ i + 6 ≤ L) (h : R σ τ) (next : ∀ σ' τ' : Kmem, R σ' τ' → Lx G G' b L xs 2164 i [] σ' τ') : Lx G G' b L xs 1383 i [] σ τ := by
  refine L_a1 (by decide +kernel) ?_
  refine L_arg (j := 1) (by decide +kernel) (by decide +kernel) (by decide +kernel) (by decide +kernel) (by decide +kernel) hL (by omega) ?_
  obtain ⟨Q1, Q2, r1, r2, r3⟩ := O_reap (G := G) (G' := G') (l1 := sxs xs (i + 1)) h sxs_r
  refine L_callX (M' := M_X11_reap) (d' := 5) (as := [vI (sxs xs (i + 1))]) (st := []) (by decide +kernel) (kCVof m_X11_reap l_L_164) rfl (by decide) (by decide) rfl _ rfl (by decide) r1 (fun v σ' q1 => ?_)
  refine L_a2 (by decide +kernel) ?_
  refine L_arg (j := 1) (by decide +kernel) (by decide +kernel) (by decide +kernel) (by decide +kernel) (by decide +kernel) hL (by omega) ?_
  refine L_callM (M' := M_X12_reap) (d' := 7) (as := [vI (sxs xs (i + 1))]) (st := [vI v]) (by decide +kernel) (kCVof m_X12_reap l_L_167) rfl (by decide) (by decide) rfl _ rfl (by show (1 : Nat) ≤ 8; decide) r2 (fun v' τ' q2 => ?_)
  obtain ⟨e, h'⟩ := r3 _ _ _ _ q1 q2
  subst e
  exact L_ieq (o := 763) 2164 (by decide +kernel) (by decide) (next _ _ h')
theorem law_ripe {G G' : Kg} {b L : Nat} {xs : Nat → Int32} {i : Int} {σ τ : Kmem} (hL : L ≤ 3072) (hi : 0 ≤ i ∧ i + 6 ≤ L) (h : R σ τ) (next : ∀ σ' τ' : Kmem, R σ' τ' → Lx G G' b L xs 2164 i [] σ' τ') : Lx G G' b L xs 1406 i [] σ τ := by
  refine L_a1 (by decide +kernel) ?_
  refine L_arg (j := 1) (by decide +kernel) (by decide +kernel) (by decide +kernel) (by decide +kernel) (by decide +kernel) hL (by omega) ?_
  obtain ⟨Q1, Q2, r1, r2, r3⟩ := O_ripe (G := G) (G' := G') (l1 := sxs xs (i + 1)) h sxs_r
  refine L_callX (M' := M_X11_ripe) (d' := 4) (as := [vI (sxs xs (i + 1))]) (st := []) (by decide +kernel) (kCVof m_X11_ripe l_L_168) rfl (by decide) (by decide) rfl _ rfl (by decide) r1 (fun v σ' q1 => ?_)
  refine L_a2 (by decide +kernel) ?_
  refine L_arg (j := 1) (by decide +kernel) (by decide +kernel) (by decide +kernel) (by decide +kernel) (by decide +kernel) hL (by omega) ?_
  refine L_callM (M' := M_X12_ripe) (d' := 10) (as := [vI (sxs xs (i + 1))]) (st := [vI v]) (by decide +kernel) (kCVof m_X12_ripe l_L_171) rfl (by decide) (by decide) rfl _ rfl (by show (1 : Nat) ≤ 8; decide) r2 (fun v' τ' q2 => ?_)
  obtain ⟨e, h'⟩ := r3 _ _ _ _ q1 q2
  subst e
  exact L_ieq (o := 740) 2164 (by decide +kernel) (by decide) (next _ _ h')
theorem law_leaseOf {G G' : Kg} {b L : Nat} {xs : Nat → Int32} {i : Int} {σ τ : Kmem} (hL : L ≤ 3072) (hi : 0 ≤ i ∧ i + 6 ≤ L) (h : R σ τ) (next : ∀ σ' τ' : Kmem, R σ' τ' → Lx G G' b L xs 2164 i [] σ' τ') : Lx G G' b L xs 1429 i [] σ τ := by
  refine L_a1 (by decide +kernel) ?_
  refine L_arg (j := 1) (by decide +kernel) (by decide +kernel) (by decide +kernel) (by decide +kernel) (by decide +kernel) hL (by omega) ?_
  refine L_arg (j := 2) (by decide +kernel) (by decide +kernel) (by decide +kernel) (by decide +kernel) (by decide +kernel) hL (by omega) ?_
  refine L_arg (j := 3) (by decide +kernel) (by decide +kernel) (by decide +kernel) (by decide +kernel) (by decide +kernel) hL (by omega) ?_
  refine L_arg (j := 4) (by decide +kernel) (by decide +kernel) (by decide +kernel) (by decide +kernel) (by decide +kernel) hL (by omega) ?_
  obtain ⟨Q1, Q2, r1, r2, r3⟩ := O_leaseOf (G := G) (G' := G') (l1 := sxs xs (i + 1)) (l2 := sxs xs (i + 2)) (l3 := sxs xs (i + 3)) (l4 := sxs xs (i + 4)) h sxs_r sxs_r sxs_r sxs_r
  refine L_callX (M' := M_X11_leaseOf) (d' := 4) (as := [vI (sxs xs (i + 1)), vI (sxs xs (i + 2)), vI (sxs xs (i + 3)), vI (sxs xs (i + 4))]) (st := []) (by decide +kernel) (kCVof m_X11_leaseOf l_L_172) rfl (by decide) (by decide) rfl _ rfl (by decide) r1 (fun v σ' q1 => ?_)
  refine L_a2 (by decide +kernel) ?_
  refine L_arg (j := 1) (by decide +kernel) (by decide +kernel) (by decide +kernel) (by decide +kernel) (by decide +kernel) hL (by omega) ?_
  refine L_arg (j := 2) (by decide +kernel) (by decide +kernel) (by decide +kernel) (by decide +kernel) (by decide +kernel) hL (by omega) ?_
  refine L_arg (j := 3) (by decide +kernel) (by decide +kernel) (by decide +kernel) (by decide +kernel) (by decide +kernel) hL (by omega) ?_
  refine L_arg (j := 4) (by decide +kernel) (by decide +kernel) (by decide +kernel) (by decide +kernel) (by decide +kernel) hL (by omega) ?_
  refine L_callM (M' := M_X12_leaseOf) (d' := 9) (as := [vI (sxs xs (i + 1)), vI (sxs xs (i + 2)), vI (sxs xs (i + 3)), vI (sxs xs (i + 4))]) (st := [vI v]) (by decide +kernel) (kCVof m_X12_leaseOf l_L_176) rfl (by decide) (by decide) rfl _ rfl (by show (1 : Nat) ≤ 8; decide) r2 (fun v' τ' q2 => ?_)
  obtain ⟨e, h'⟩ := r3 _ _ _ _ q1 q2
  subst e
  exact L_ieq (o := 687) 2164 (by decide +kernel) (by decide) (next _ _ h')
theorem law_plant {G G' : Kg} {b L : Nat} {xs : Nat → Int32} {i : Int} {σ τ : Kmem} (hL : L ≤ 3072) (hi : 0 ≤ i ∧ i + 6 ≤ L) (h : R σ τ) (next : ∀ σ' τ' : Kmem, R σ' τ' → Lx G G' b L xs 2164 i [] σ' τ') : Lx G G' b L xs 1482 i [] σ τ := by
  refine L_a1 (by decide +kernel) ?_
  refine L_arg (j := 1) (by decide +kernel) (by decide +kernel) (by decide +kernel) (by decide +kernel) (by decide +kernel) hL (by omega) ?_
  obtain ⟨Q1, Q2, r1, r2, r3⟩ := O_plant (G := G) (G' := G') (l1 := sxs xs (i + 1)) h sxs_r
  refine L_callX (M' := M_X11_plant) (d' := 5) (as := [vI (sxs xs (i + 1))]) (st := []) (by decide +kernel) (kCVof m_X11_plant l_L_177) rfl (by decide) (by decide) rfl _ rfl (by decide) r1 (fun v σ' q1 => ?_)
  refine L_a2 (by decide +kernel) ?_
  refine L_arg (j := 1) (by decide +kernel) (by decide +kernel) (by decide +kernel) (by decide +kernel) (by decide +kernel) hL (by omega) ?_
  refine L_callM (M' := M_X12_plant) (d' := 10) (as := [vI (sxs xs (i + 1))]) (st := [vI v]) (by decide +kernel) (kCVof m_X12_plant l_L_180) rfl (by decide) (by decide) rfl _ rfl (by show (1 : Nat) ≤ 8; decide) r2 (fun v' τ' q2 => ?_)
  obtain ⟨e, h'⟩ := r3 _ _ _ _ q1 q2
  subst e
  exact L_ieq (o := 664) 2164 (by decide +kernel) (by decide) (next _ _ h')
theorem law_planted {G G' : Kg} {b L : Nat} {xs : Nat → Int32} {i : Int} {σ τ : Kmem} (hL : L ≤ 3072) (hi : 0 ≤ i ∧ i + 6 ≤ L) (h : R σ τ) (next : ∀ σ' τ' : Kmem, R σ' τ' → Lx G G' b L xs 2164 i [] σ' τ') : Lx G G' b L xs 1505 i [] σ τ := by
  refine L_a1 (by decide +kernel) ?_
  refine L_arg (j := 1) (by decide +kernel) (by decide +kernel) (by decide +kernel) (by decide +kernel) (by decide +kernel) hL (by omega) ?_
  obtain ⟨Q1, Q2, r1, r2, r3⟩ := O_planted (G := G) (G' := G') (l1 := sxs xs (i + 1)) h sxs_r
  refine L_callX (M' := M_X11_planted) (d' := 5) (as := [vI (sxs xs (i + 1))]) (st := []) (by decide +kernel) (kCVof m_X11_planted l_L_181) rfl (by decide) (by decide) rfl _ rfl (by decide) r1 (fun v σ' q1 => ?_)
  refine L_a2 (by decide +kernel) ?_
  refine L_arg (j := 1) (by decide +kernel) (by decide +kernel) (by decide +kernel) (by decide +kernel) (by decide +kernel) hL (by omega) ?_
  refine L_callM (M' := M_X12_planted) (d' := 10) (as := [vI (sxs xs (i + 1))]) (st := [vI v]) (by decide +kernel) (kCVof m_X12_planted l_L_184) rfl (by decide) (by decide) rfl _ rfl (by show (1 : Nat) ≤ 8; decide) r2 (fun v' τ' q2 => ?_)
  obtain ⟨e, h'⟩ := r3 _ _ _ _ q1 q2
  subst e
  exact L_ieq (o := 641) 2164 (by decide +kernel) (by decide) (next _ _ h')
theorem law_purseIn {G G' : Kg} {b L : Nat} {xs : Nat → Int32} {i : Int} {σ τ : Kmem} (hL : L ≤ 3072) (hi : 0 ≤ i ∧ i + 6 ≤ L) (h : R σ τ) (next : ∀ σ' τ' : Kmem, R σ' τ' → Lx G G' b L xs 2164 i [] σ' τ') : Lx G G' b L xs 1528 i [] σ τ := by
  refine L_a1 (by decide +kernel) ?_
  refine L_arg (j := 1) (by decide +kernel) (by decide +kernel) (by decide +kernel) (by decide +kernel) (by decide +kernel) hL (by omega) ?_
  refine L_arg (j := 2) (by decide +kernel) (by decide +kernel) (by decide +kernel) (by decide +kernel) (by decide +kernel) hL (by omega) ?_
  obtain ⟨Q1, Q2, r1, r2, r3⟩ := O_purseIn (G := G) (G' := G') (l1 := sxs xs (i + 1)) (l2 := sxs xs (i + 2)) h sxs_r sxs_r
  refine L_callX (M' := M_X11_purseIn) (d' := 6) (as := [vI (sxs xs (i + 1)), vI (sxs xs (i + 2))]) (st := []) (by decide +kernel) (kCVof m_X11_purseIn l_L_185) rfl (by decide) (by decide) rfl _ rfl (by decide) r1 (fun v σ' q1 => ?_)
  refine L_a2 (by decide +kernel) ?_
  refine L_arg (j := 1) (by decide +kernel) (by decide +kernel) (by decide +kernel) (by decide +kernel) (by decide +kernel) hL (by omega) ?_
  refine L_arg (j := 2) (by decide +kernel) (by decide +kernel) (by decide +kernel) (by decide +kernel) (by decide +kernel) hL (by omega) ?_
  refine L_callM (M' := M_X12_purseIn) (d' := 10) (as := [vI (sxs xs (i + 1)), vI (sxs xs (i + 2))]) (st := [vI v]) (by decide +kernel) (kCVof m_X12_purseIn l_L_188) rfl (by decide) (by decide) rfl _ rfl (by show (1 : Nat) ≤ 8; decide) r2 (fun v' τ' q2 => ?_)
  obtain ⟨e, h'⟩ := r3 _ _ _ _ q1 q2
  subst e
  exact L_ieq (o := 608) 2164 (by decide +kernel) (by decide) (next _ _ h')
theorem law_tenantIn {G G' : Kg} {b L : Nat} {xs : Nat → Int32} {i : Int} {σ τ : Kmem} (hL : L ≤ 3072) (hi : 0 ≤ i ∧ i + 6 ≤ L) (h : R σ τ) (next : ∀ σ' τ' : Kmem, R σ' τ' → Lx G G' b L xs 2164 i [] σ' τ') : Lx G G' b L xs 1561 i [] σ τ := by
  refine L_a1 (by decide +kernel) ?_
  refine L_arg (j := 1) (by decide +kernel) (by decide +kernel) (by decide +kernel) (by decide +kernel) (by decide +kernel) hL (by omega) ?_
  refine L_arg (j := 2) (by decide +kernel) (by decide +kernel) (by decide +kernel) (by decide +kernel) (by decide +kernel) hL (by omega) ?_
  obtain ⟨Q1, Q2, r1, r2, r3⟩ := O_tenantIn (G := G) (G' := G') (l1 := sxs xs (i + 1)) (l2 := sxs xs (i + 2)) h sxs_r sxs_r
  refine L_callX (M' := M_X11_tenantIn) (d' := 6) (as := [vI (sxs xs (i + 1)), vI (sxs xs (i + 2))]) (st := []) (by decide +kernel) (kCVof m_X11_tenantIn l_L_189) rfl (by decide) (by decide) rfl _ rfl (by decide) r1 (fun v σ' q1 => ?_)
  refine L_a2 (by decide +kernel) ?_
  refine L_arg (j := 1) (by decide +kernel) (by decide +kernel) (by decide +kernel) (by decide +kernel) (by decide +kernel) hL (by omega) ?_
  refine L_arg (j := 2) (by decide +kernel) (by decide +kernel) (by decide +kernel) (by decide +kernel) (by decide +kernel) hL (by omega) ?_
  refine L_callM (M' := M_X12_tenantIn) (d' := 10) (as := [vI (sxs xs (i + 1)), vI (sxs xs (i + 2))]) (st := [vI v]) (by decide +kernel) (kCVof m_X12_tenantIn l_L_192) rfl (by decide) (by decide) rfl _ rfl (by show (1 : Nat) ≤ 8; decide) r2 (fun v' τ' q2 => ?_)
  obtain ⟨e, h'⟩ := r3 _ _ _ _ q1 q2
  subst e
  exact L_ieq (o := 575) 2164 (by decide +kernel) (by decide) (next _ _ h')
theorem law_cutIn {G G' : Kg} {b L : Nat} {xs : Nat → Int32} {i : Int} {σ τ : Kmem} (hL : L ≤ 3072) (hi : 0 ≤ i ∧ i + 6 ≤ L) (h : R σ τ) (next : ∀ σ' τ' : Kmem, R σ' τ' → Lx G G' b L xs 2164 i [] σ' τ') : Lx G G' b L xs 1594 i [] σ τ := by
  refine L_a1 (by decide +kernel) ?_
  refine L_arg (j := 1) (by decide +kernel) (by decide +kernel) (by decide +kernel) (by decide +kernel) (by decide +kernel) hL (by omega) ?_
  obtain ⟨Q1, Q2, r1, r2, r3⟩ := O_cutIn (G := G) (G' := G') (l1 := sxs xs (i + 1)) h sxs_r
  refine L_callX (M' := M_X11_cutIn) (d' := 4) (as := [vI (sxs xs (i + 1))]) (st := []) (by decide +kernel) (kCVof m_X11_cutIn l_L_193) rfl (by decide) (by decide) rfl _ rfl (by decide) r1 (fun v σ' q1 => ?_)
  refine L_a2 (by decide +kernel) ?_
  refine L_arg (j := 1) (by decide +kernel) (by decide +kernel) (by decide +kernel) (by decide +kernel) (by decide +kernel) hL (by omega) ?_
  refine L_callM (M' := M_X12_cutIn) (d' := 10) (as := [vI (sxs xs (i + 1))]) (st := [vI v]) (by decide +kernel) (kCVof m_X12_cutIn l_L_196) rfl (by decide) (by decide) rfl _ rfl (by show (1 : Nat) ≤ 8; decide) r2 (fun v' τ' q2 => ?_)
  obtain ⟨e, h'⟩ := r3 _ _ _ _ q1 q2
  subst e
  exact L_ieq (o := 552) 2164 (by decide +kernel) (by decide) (next _ _ h')
theorem law_fly {G G' : Kg} {b L : Nat} {xs : Nat → Int32} {i : Int} {σ τ : Kmem} (hL : L ≤ 3072) (hi : 0 ≤ i ∧ i + 6 ≤ L) (h : R σ τ) (next : ∀ σ' τ' : Kmem, R σ' τ' → Lx G G' b L xs 2164 i [] σ' τ') : Lx G G' b L xs 1617 i [] σ τ := by
  refine L_a1 (by decide +kernel) ?_
  refine L_arg (j := 1) (by decide +kernel) (by decide +kernel) (by decide +kernel) (by decide +kernel) (by decide +kernel) hL (by omega) ?_
  refine L_arg (j := 2) (by decide +kernel) (by decide +kernel) (by decide +kernel) (by decide +kernel) (by decide +kernel) hL (by omega) ?_
  refine L_arg (j := 3) (by decide +kernel) (by decide +kernel) (by decide +kernel) (by decide +kernel) (by decide +kernel) hL (by omega) ?_
  refine L_arg (j := 4) (by decide +kernel) (by decide +kernel) (by decide +kernel) (by decide +kernel) (by decide +kernel) hL (by omega) ?_
  obtain ⟨Q1, Q2, r1, r2, r3⟩ := O_fly (G := G) (G' := G') (l1 := sxs xs (i + 1)) (l2 := sxs xs (i + 2)) (l3 := sxs xs (i + 3)) (l4 := sxs xs (i + 4)) h sxs_r sxs_r sxs_r sxs_r
  refine L_callX (M' := M_X11_fly) (d' := 22) (as := [vI (sxs xs (i + 1)), vI (sxs xs (i + 2)), vI (sxs xs (i + 3)), vI (sxs xs (i + 4))]) (st := []) (by decide +kernel) (kCVof m_X11_fly l_L_197) rfl (by decide) (by decide) rfl _ rfl (by decide) r1 (fun v σ' q1 => ?_)
  refine L_a2 (by decide +kernel) ?_
  refine L_arg (j := 1) (by decide +kernel) (by decide +kernel) (by decide +kernel) (by decide +kernel) (by decide +kernel) hL (by omega) ?_
  refine L_arg (j := 2) (by decide +kernel) (by decide +kernel) (by decide +kernel) (by decide +kernel) (by decide +kernel) hL (by omega) ?_
  refine L_arg (j := 3) (by decide +kernel) (by decide +kernel) (by decide +kernel) (by decide +kernel) (by decide +kernel) hL (by omega) ?_
  refine L_arg (j := 4) (by decide +kernel) (by decide +kernel) (by decide +kernel) (by decide +kernel) (by decide +kernel) hL (by omega) ?_
  refine L_callM (M' := M_X12_fly) (d' := 9) (as := [vI (sxs xs (i + 1)), vI (sxs xs (i + 2)), vI (sxs xs (i + 3)), vI (sxs xs (i + 4))]) (st := [vI v]) (by decide +kernel) (kCVof m_X12_fly l_L_200) rfl (by decide) (by decide) rfl _ rfl (by show (1 : Nat) ≤ 8; decide) r2 (fun v' τ' q2 => ?_)
  obtain ⟨e, h'⟩ := r3 _ _ _ _ q1 q2
  subst e
  exact L_ieq (o := 499) 2164 (by decide +kernel) (by decide) (next _ _ h')
theorem law_flyAt {G G' : Kg} {b L : Nat} {xs : Nat → Int32} {i : Int} {σ τ : Kmem} (hL : L ≤ 3072) (hi : 0 ≤ i ∧ i + 6 ≤ L) (h : R σ τ) (next : ∀ σ' τ' : Kmem, R σ' τ' → Lx G G' b L xs 2164 i [] σ' τ') : Lx G G' b L xs 1670 i [] σ τ := by
  refine L_a1 (by decide +kernel) ?_
  refine L_arg (j := 1) (by decide +kernel) (by decide +kernel) (by decide +kernel) (by decide +kernel) (by decide +kernel) hL (by omega) ?_
  obtain ⟨Q1, Q2, r1, r2, r3⟩ := O_flyAt (G := G) (G' := G') (l1 := sxs xs (i + 1)) h sxs_r
  refine L_callX (M' := M_X11_flyAt) (d' := 1) (as := [vI (sxs xs (i + 1))]) (st := []) (by decide +kernel) (kCVof m_X11_flyAt l_L_201) rfl (by decide) (by decide) rfl _ rfl (by decide) r1 (fun v σ' q1 => ?_)
  refine L_a2 (by decide +kernel) ?_
  refine L_arg (j := 1) (by decide +kernel) (by decide +kernel) (by decide +kernel) (by decide +kernel) (by decide +kernel) hL (by omega) ?_
  refine L_callM (M' := M_X12_flyAt) (d' := 1) (as := [vI (sxs xs (i + 1))]) (st := [vI v]) (by decide +kernel) (kCVof m_X12_flyAt l_L_204) rfl (by decide) (by decide) rfl _ rfl (by show (1 : Nat) ≤ 8; decide) r2 (fun v' τ' q2 => ?_)
  obtain ⟨e, h'⟩ := r3 _ _ _ _ q1 q2
  subst e
  exact L_ieq (o := 476) 2164 (by decide +kernel) (by decide) (next _ _ h')
theorem law_cover {G G' : Kg} {b L : Nat} {xs : Nat → Int32} {i : Int} {σ τ : Kmem} (hL : L ≤ 3072) (hi : 0 ≤ i ∧ i + 6 ≤ L) (h : R σ τ) (next : ∀ σ' τ' : Kmem, R σ' τ' → Lx G G' b L xs 2164 i [] σ' τ') : Lx G G' b L xs 1693 i [] σ τ := by
  refine L_a1 (by decide +kernel) ?_
  refine L_arg (j := 1) (by decide +kernel) (by decide +kernel) (by decide +kernel) (by decide +kernel) (by decide +kernel) hL (by omega) ?_
  refine L_arg (j := 2) (by decide +kernel) (by decide +kernel) (by decide +kernel) (by decide +kernel) (by decide +kernel) hL (by omega) ?_
  refine L_arg (j := 3) (by decide +kernel) (by decide +kernel) (by decide +kernel) (by decide +kernel) (by decide +kernel) hL (by omega) ?_
  obtain ⟨Q1, Q2, r1, r2, r3⟩ := O_cover (G := G) (G' := G') (l1 := sxs xs (i + 1)) (l2 := sxs xs (i + 2)) (l3 := sxs xs (i + 3)) h sxs_r sxs_r sxs_r
  refine L_callX (M' := M_X11_cover) (d' := 5) (as := [vI (sxs xs (i + 1)), vI (sxs xs (i + 2)), vI (sxs xs (i + 3))]) (st := []) (by decide +kernel) (kCVof m_X11_cover l_L_205) rfl (by decide) (by decide) rfl _ rfl (by decide) r1 (fun v σ' q1 => ?_)
  refine L_a2 (by decide +kernel) ?_
  refine L_arg (j := 1) (by decide +kernel) (by decide +kernel) (by decide +kernel) (by decide +kernel) (by decide +kernel) hL (by omega) ?_
  refine L_arg (j := 2) (by decide +kernel) (by decide +kernel) (by decide +kernel) (by decide +kernel) (by decide +kernel) hL (by omega) ?_
  refine L_arg (j := 3) (by decide +kernel) (by decide +kernel) (by decide +kernel) (by decide +kernel) (by decide +kernel) hL (by omega) ?_
  refine L_callM (M' := M_X12_cover) (d' := 7) (as := [vI (sxs xs (i + 1)), vI (sxs xs (i + 2)), vI (sxs xs (i + 3))]) (st := [vI v]) (by decide +kernel) (kCVof m_X12_cover l_L_208) rfl (by decide) (by decide) rfl _ rfl (by show (1 : Nat) ≤ 8; decide) r2 (fun v' τ' q2 => ?_)
  obtain ⟨e, h'⟩ := r3 _ _ _ _ q1 q2
  subst e
  exact L_ieq (o := 433) 2164 (by decide +kernel) (by decide) (next _ _ h')
theorem law_coverSet {G G' : Kg} {b L : Nat} {xs : Nat → Int32} {i : Int} {σ τ : Kmem} (hL : L ≤ 3072) (hi : 0 ≤ i ∧ i + 6 ≤ L) (h : R σ τ) (next : ∀ σ' τ' : Kmem, R σ' τ' → Lx G G' b L xs 2164 i [] σ' τ') : Lx G G' b L xs 1736 i [] σ τ := by
  refine L_a1 (by decide +kernel) ?_
  refine L_arg (j := 1) (by decide +kernel) (by decide +kernel) (by decide +kernel) (by decide +kernel) (by decide +kernel) hL (by omega) ?_
  refine L_arg (j := 2) (by decide +kernel) (by decide +kernel) (by decide +kernel) (by decide +kernel) (by decide +kernel) hL (by omega) ?_
  refine L_arg (j := 3) (by decide +kernel) (by decide +kernel) (by decide +kernel) (by decide +kernel) (by decide +kernel) hL (by omega) ?_
  obtain ⟨Q1, Q2, r1, r2, r3⟩ := O_coverSet (G := G) (G' := G') (l1 := sxs xs (i + 1)) (l2 := sxs xs (i + 2)) (l3 := sxs xs (i + 3)) h sxs_r sxs_r sxs_r
  refine L_callX (M' := M_X11_coverSet) (d' := 5) (as := [vI (sxs xs (i + 1)), vI (sxs xs (i + 2)), vI (sxs xs (i + 3))]) (st := []) (by decide +kernel) (kCVof m_X11_coverSet l_L_209) rfl (by decide) (by decide) rfl _ rfl (by decide) r1 (fun v σ' q1 => ?_)
  refine L_a2 (by decide +kernel) ?_
  refine L_arg (j := 1) (by decide +kernel) (by decide +kernel) (by decide +kernel) (by decide +kernel) (by decide +kernel) hL (by omega) ?_
  refine L_arg (j := 2) (by decide +kernel) (by decide +kernel) (by decide +kernel) (by decide +kernel) (by decide +kernel) hL (by omega) ?_
  refine L_arg (j := 3) (by decide +kernel) (by decide +kernel) (by decide +kernel) (by decide +kernel) (by decide +kernel) hL (by omega) ?_
  refine L_callM (M' := M_X12_coverSet) (d' := 7) (as := [vI (sxs xs (i + 1)), vI (sxs xs (i + 2)), vI (sxs xs (i + 3))]) (st := [vI v]) (by decide +kernel) (kCVof m_X12_coverSet l_L_212) rfl (by decide) (by decide) rfl _ rfl (by show (1 : Nat) ≤ 8; decide) r2 (fun v' τ' q2 => ?_)
  obtain ⟨e, h'⟩ := r3 _ _ _ _ q1 q2
  subst e
  exact L_ieq (o := 390) 2164 (by decide +kernel) (by decide) (next _ _ h')
theorem law_settle {G G' : Kg} {b L : Nat} {xs : Nat → Int32} {i : Int} {σ τ : Kmem} (hL : L ≤ 3072) (hi : 0 ≤ i ∧ i + 6 ≤ L) (h : R σ τ) (next : ∀ σ' τ' : Kmem, R σ' τ' → Lx G G' b L xs 2164 i [] σ' τ') : Lx G G' b L xs 1779 i [] σ τ := by
  refine L_a1 (by decide +kernel) ?_
  refine L_arg (j := 1) (by decide +kernel) (by decide +kernel) (by decide +kernel) (by decide +kernel) (by decide +kernel) hL (by omega) ?_
  obtain ⟨Q1, Q2, r1, r2, r3⟩ := O_settle (G := G) (G' := G') (l1 := sxs xs (i + 1)) h sxs_r
  refine L_callX (M' := M_X11_settle) (d' := 5) (as := [vI (sxs xs (i + 1))]) (st := []) (by decide +kernel) (kCVof m_X11_settle l_L_213) rfl (by decide) (by decide) rfl _ rfl (by decide) r1 (fun v σ' q1 => ?_)
  refine L_a2 (by decide +kernel) ?_
  refine L_arg (j := 1) (by decide +kernel) (by decide +kernel) (by decide +kernel) (by decide +kernel) (by decide +kernel) hL (by omega) ?_
  refine L_callM (M' := M_X12_settle) (d' := 9) (as := [vI (sxs xs (i + 1))]) (st := [vI v]) (by decide +kernel) (kCVof m_X12_settle l_L_216) rfl (by decide) (by decide) rfl _ rfl (by show (1 : Nat) ≤ 8; decide) r2 (fun v' τ' q2 => ?_)
  obtain ⟨e, h'⟩ := r3 _ _ _ _ q1 q2
  subst e
  exact L_ieq (o := 367) 2164 (by decide +kernel) (by decide) (next _ _ h')
theorem law_strip {G G' : Kg} {b L : Nat} {xs : Nat → Int32} {i : Int} {σ τ : Kmem} (hL : L ≤ 3072) (hi : 0 ≤ i ∧ i + 6 ≤ L) (h : R σ τ) (next : ∀ σ' τ' : Kmem, R σ' τ' → Lx G G' b L xs 2164 i [] σ' τ') : Lx G G' b L xs 1802 i [] σ τ := by
  refine L_a1 (by decide +kernel) ?_
  refine L_arg (j := 1) (by decide +kernel) (by decide +kernel) (by decide +kernel) (by decide +kernel) (by decide +kernel) hL (by omega) ?_
  refine L_arg (j := 2) (by decide +kernel) (by decide +kernel) (by decide +kernel) (by decide +kernel) (by decide +kernel) hL (by omega) ?_
  refine L_arg (j := 3) (by decide +kernel) (by decide +kernel) (by decide +kernel) (by decide +kernel) (by decide +kernel) hL (by omega) ?_
  obtain ⟨Q1, Q2, r1, r2, r3⟩ := O_strip (G := G) (G' := G') (l1 := sxs xs (i + 1)) (l2 := sxs xs (i + 2)) (l3 := sxs xs (i + 3)) h sxs_r sxs_r sxs_r
  refine L_callX (M' := M_X11_strip) (d' := 5) (as := [vI (sxs xs (i + 1)), vI (sxs xs (i + 2)), vI (sxs xs (i + 3))]) (st := []) (by decide +kernel) (kCVof m_X11_strip l_L_217) rfl (by decide) (by decide) rfl _ rfl (by decide) r1 (fun v σ' q1 => ?_)
  refine L_a2 (by decide +kernel) ?_
  refine L_arg (j := 1) (by decide +kernel) (by decide +kernel) (by decide +kernel) (by decide +kernel) (by decide +kernel) hL (by omega) ?_
  refine L_arg (j := 2) (by decide +kernel) (by decide +kernel) (by decide +kernel) (by decide +kernel) (by decide +kernel) hL (by omega) ?_
  refine L_arg (j := 3) (by decide +kernel) (by decide +kernel) (by decide +kernel) (by decide +kernel) (by decide +kernel) hL (by omega) ?_
  refine L_callM (M' := M_X12_strip) (d' := 6) (as := [vI (sxs xs (i + 1)), vI (sxs xs (i + 2)), vI (sxs xs (i + 3))]) (st := [vI v]) (by decide +kernel) (kCVof m_X12_strip l_L_220) rfl (by decide) (by decide) rfl _ rfl (by show (1 : Nat) ≤ 8; decide) r2 (fun v' τ' q2 => ?_)
  obtain ⟨e, h'⟩ := r3 _ _ _ _ q1 q2
  subst e
  exact L_ieq (o := 324) 2164 (by decide +kernel) (by decide) (next _ _ h')
theorem law_suspects {G G' : Kg} {b L : Nat} {xs : Nat → Int32} {i : Int} {σ τ : Kmem} (hL : L ≤ 3072) (hi : 0 ≤ i ∧ i + 6 ≤ L) (h : R σ τ) (next : ∀ σ' τ' : Kmem, R σ' τ' → Lx G G' b L xs 2164 i [] σ' τ') : Lx G G' b L xs 1845 i [] σ τ := by
  refine L_a1 (by decide +kernel) ?_
  refine L_arg (j := 1) (by decide +kernel) (by decide +kernel) (by decide +kernel) (by decide +kernel) (by decide +kernel) hL (by omega) ?_
  refine L_arg (j := 2) (by decide +kernel) (by decide +kernel) (by decide +kernel) (by decide +kernel) (by decide +kernel) hL (by omega) ?_
  obtain ⟨Q1, Q2, r1, r2, r3⟩ := O_suspects (G := G) (G' := G') (l1 := sxs xs (i + 1)) (l2 := sxs xs (i + 2)) h sxs_r sxs_r
  refine L_callX (M' := M_X11_suspects) (d' := 5) (as := [vI (sxs xs (i + 1)), vI (sxs xs (i + 2))]) (st := []) (by decide +kernel) (kCVof m_X11_suspects l_L_221) rfl (by decide) (by decide) rfl _ rfl (by decide) r1 (fun v σ' q1 => ?_)
  refine L_a2 (by decide +kernel) ?_
  refine L_arg (j := 1) (by decide +kernel) (by decide +kernel) (by decide +kernel) (by decide +kernel) (by decide +kernel) hL (by omega) ?_
  refine L_arg (j := 2) (by decide +kernel) (by decide +kernel) (by decide +kernel) (by decide +kernel) (by decide +kernel) hL (by omega) ?_
  refine L_callM (M' := M_X12_suspects) (d' := 6) (as := [vI (sxs xs (i + 1)), vI (sxs xs (i + 2))]) (st := [vI v]) (by decide +kernel) (kCVof m_X12_suspects l_L_224) rfl (by decide) (by decide) rfl _ rfl (by show (1 : Nat) ≤ 8; decide) r2 (fun v' τ' q2 => ?_)
  obtain ⟨e, h'⟩ := r3 _ _ _ _ q1 q2
  subst e
  exact L_ieq (o := 291) 2164 (by decide +kernel) (by decide) (next _ _ h')
theorem law_telling {G G' : Kg} {b L : Nat} {xs : Nat → Int32} {i : Int} {σ τ : Kmem} (hL : L ≤ 3072) (hi : 0 ≤ i ∧ i + 6 ≤ L) (h : R σ τ) (next : ∀ σ' τ' : Kmem, R σ' τ' → Lx G G' b L xs 2164 i [] σ' τ') : Lx G G' b L xs 1878 i [] σ τ := by
  refine L_a1 (by decide +kernel) ?_
  obtain ⟨Q1, Q2, r1, r2, r3⟩ := O_telling (G := G) (G' := G')  h
  refine L_callX (M' := M_X11_telling) (d' := 6) (as := []) (st := []) (by decide +kernel) (kCVof m_X11_telling l_L_225) rfl (by decide) (by decide) rfl _ rfl (by decide) r1 (fun v σ' q1 => ?_)
  refine L_a2 (by decide +kernel) ?_
  refine L_callM (M' := M_X12_telling) (d' := 7) (as := []) (st := [vI v]) (by decide +kernel) (kCVof m_X12_telling l_L_228) rfl (by decide) (by decide) rfl _ rfl (by show (1 : Nat) ≤ 8; decide) r2 (fun v' τ' q2 => ?_)
  obtain ⟨e, h'⟩ := r3 _ _ _ _ q1 q2
  subst e
  exact L_ieq (o := 278) 2164 (by decide +kernel) (by decide) (next _ _ h')
theorem law_strips {G G' : Kg} {b L : Nat} {xs : Nat → Int32} {i : Int} {σ τ : Kmem} (hL : L ≤ 3072) (hi : 0 ≤ i ∧ i + 6 ≤ L) (h : R σ τ) (next : ∀ σ' τ' : Kmem, R σ' τ' → Lx G G' b L xs 2164 i [] σ' τ') : Lx G G' b L xs 1891 i [] σ τ := by
  refine L_a1 (by decide +kernel) ?_
  refine L_arg (j := 1) (by decide +kernel) (by decide +kernel) (by decide +kernel) (by decide +kernel) (by decide +kernel) hL (by omega) ?_
  obtain ⟨Q1, Q2, r1, r2, r3⟩ := O_strips (G := G) (G' := G') (l1 := sxs xs (i + 1)) h sxs_r
  refine L_callX (M' := M_X11_strips) (d' := 6) (as := [vI (sxs xs (i + 1))]) (st := []) (by decide +kernel) (kCVof m_X11_strips l_L_229) rfl (by decide) (by decide) rfl _ rfl (by decide) r1 (fun v σ' q1 => ?_)
  refine L_a2 (by decide +kernel) ?_
  refine L_arg (j := 1) (by decide +kernel) (by decide +kernel) (by decide +kernel) (by decide +kernel) (by decide +kernel) hL (by omega) ?_
  refine L_callM (M' := M_X12_strips) (d' := 7) (as := [vI (sxs xs (i + 1))]) (st := [vI v]) (by decide +kernel) (kCVof m_X12_strips l_L_232) rfl (by decide) (by decide) rfl _ rfl (by show (1 : Nat) ≤ 8; decide) r2 (fun v' τ' q2 => ?_)
  obtain ⟨e, h'⟩ := r3 _ _ _ _ q1 q2
  subst e
  exact L_ieq (o := 255) 2164 (by decide +kernel) (by decide) (next _ _ h')
theorem law_duel {G G' : Kg} {b L : Nat} {xs : Nat → Int32} {i : Int} {σ τ : Kmem} (hL : L ≤ 3072) (hi : 0 ≤ i ∧ i + 6 ≤ L) (h : R σ τ) (next : ∀ σ' τ' : Kmem, R σ' τ' → Lx G G' b L xs 2164 i [] σ' τ') : Lx G G' b L xs 1914 i [] σ τ := by
  refine L_a1 (by decide +kernel) ?_
  refine L_arg (j := 1) (by decide +kernel) (by decide +kernel) (by decide +kernel) (by decide +kernel) (by decide +kernel) hL (by omega) ?_
  refine L_arg (j := 2) (by decide +kernel) (by decide +kernel) (by decide +kernel) (by decide +kernel) (by decide +kernel) hL (by omega) ?_
  refine L_arg (j := 3) (by decide +kernel) (by decide +kernel) (by decide +kernel) (by decide +kernel) (by decide +kernel) hL (by omega) ?_
  obtain ⟨Q1, Q2, r1, r2, r3⟩ := O_duel (G := G) (G' := G') (l1 := sxs xs (i + 1)) (l2 := sxs xs (i + 2)) (l3 := sxs xs (i + 3)) h sxs_r sxs_r sxs_r
  refine L_callX (M' := M_X11_duel) (d' := 22) (as := [vI (sxs xs (i + 1)), vI (sxs xs (i + 2)), vI (sxs xs (i + 3))]) (st := []) (by decide +kernel) (kCVof m_X11_duel l_L_233) rfl (by decide) (by decide) rfl _ rfl (by decide) r1 (fun v σ' q1 => ?_)
  refine L_a2 (by decide +kernel) ?_
  refine L_arg (j := 1) (by decide +kernel) (by decide +kernel) (by decide +kernel) (by decide +kernel) (by decide +kernel) hL (by omega) ?_
  refine L_arg (j := 2) (by decide +kernel) (by decide +kernel) (by decide +kernel) (by decide +kernel) (by decide +kernel) hL (by omega) ?_
  refine L_arg (j := 3) (by decide +kernel) (by decide +kernel) (by decide +kernel) (by decide +kernel) (by decide +kernel) hL (by omega) ?_
  refine L_callM (M' := M_X12_duel) (d' := 10) (as := [vI (sxs xs (i + 1)), vI (sxs xs (i + 2)), vI (sxs xs (i + 3))]) (st := [vI v]) (by decide +kernel) (kCVof m_X12_duel l_L_236) rfl (by decide) (by decide) rfl _ rfl (by show (1 : Nat) ≤ 8; decide) r2 (fun v' τ' q2 => ?_)
  obtain ⟨e, h'⟩ := r3 _ _ _ _ q1 q2
  subst e
  exact L_ieq (o := 212) 2164 (by decide +kernel) (by decide) (next _ _ h')
theorem law_duelStep {G G' : Kg} {b L : Nat} {xs : Nat → Int32} {i : Int} {σ τ : Kmem} (hL : L ≤ 3072) (hi : 0 ≤ i ∧ i + 6 ≤ L) (h : R σ τ) (next : ∀ σ' τ' : Kmem, R σ' τ' → Lx G G' b L xs 2164 i [] σ' τ') : Lx G G' b L xs 1957 i [] σ τ := by
  refine L_a1 (by decide +kernel) ?_
  refine L_arg (j := 1) (by decide +kernel) (by decide +kernel) (by decide +kernel) (by decide +kernel) (by decide +kernel) hL (by omega) ?_
  refine L_arg (j := 2) (by decide +kernel) (by decide +kernel) (by decide +kernel) (by decide +kernel) (by decide +kernel) hL (by omega) ?_
  refine L_arg (j := 3) (by decide +kernel) (by decide +kernel) (by decide +kernel) (by decide +kernel) (by decide +kernel) hL (by omega) ?_
  obtain ⟨Q1, Q2, r1, r2, r3⟩ := O_duelStep (G := G) (G' := G') (l1 := sxs xs (i + 1)) (l2 := sxs xs (i + 2)) (l3 := sxs xs (i + 3)) h sxs_r sxs_r sxs_r
  refine L_callX (M' := M_X11_duelStep) (d' := 22) (as := [vI (sxs xs (i + 1)), vI (sxs xs (i + 2)), vI (sxs xs (i + 3))]) (st := []) (by decide +kernel) (kCVof m_X11_duelStep l_L_237) rfl (by decide) (by decide) rfl _ rfl (by decide) r1 (fun v σ' q1 => ?_)
  refine L_a2 (by decide +kernel) ?_
  refine L_arg (j := 1) (by decide +kernel) (by decide +kernel) (by decide +kernel) (by decide +kernel) (by decide +kernel) hL (by omega) ?_
  refine L_arg (j := 2) (by decide +kernel) (by decide +kernel) (by decide +kernel) (by decide +kernel) (by decide +kernel) hL (by omega) ?_
  refine L_arg (j := 3) (by decide +kernel) (by decide +kernel) (by decide +kernel) (by decide +kernel) (by decide +kernel) hL (by omega) ?_
  refine L_callM (M' := M_X12_duelStep) (d' := 10) (as := [vI (sxs xs (i + 1)), vI (sxs xs (i + 2)), vI (sxs xs (i + 3))]) (st := [vI v]) (by decide +kernel) (kCVof m_X12_duelStep l_L_240) rfl (by decide) (by decide) rfl _ rfl (by show (1 : Nat) ≤ 8; decide) r2 (fun v' τ' q2 => ?_)
  obtain ⟨e, h'⟩ := r3 _ _ _ _ q1 q2
  subst e
  exact L_ieq (o := 169) 2164 (by decide +kernel) (by decide) (next _ _ h')
theorem law_needed {G G' : Kg} {b L : Nat} {xs : Nat → Int32} {i : Int} {σ τ : Kmem} (hL : L ≤ 3072) (hi : 0 ≤ i ∧ i + 6 ≤ L) (h : R σ τ) (next : ∀ σ' τ' : Kmem, R σ' τ' → Lx G G' b L xs 2164 i [] σ' τ') : Lx G G' b L xs 2000 i [] σ τ := by
  refine L_a1 (by decide +kernel) ?_
  obtain ⟨Q1, Q2, r1, r2, r3⟩ := O_needed (G := G) (G' := G')  h
  refine L_callX (M' := M_X11_needed) (d' := 5) (as := []) (st := []) (by decide +kernel) (kCVof m_X11_needed l_L_241) rfl (by decide) (by decide) rfl _ rfl (by decide) r1 (fun v σ' q1 => ?_)
  refine L_a2 (by decide +kernel) ?_
  refine L_callM (M' := M_X12_needed) (d' := 7) (as := []) (st := [vI v]) (by decide +kernel) (kCVof m_X12_needed l_L_244) rfl (by decide) (by decide) rfl _ rfl (by show (1 : Nat) ≤ 8; decide) r2 (fun v' τ' q2 => ?_)
  obtain ⟨e, h'⟩ := r3 _ _ _ _ q1 q2
  subst e
  exact L_ieq (o := 156) 2164 (by decide +kernel) (by decide) (next _ _ h')
theorem law_share {G G' : Kg} {b L : Nat} {xs : Nat → Int32} {i : Int} {σ τ : Kmem} (hL : L ≤ 3072) (hi : 0 ≤ i ∧ i + 6 ≤ L) (h : R σ τ) (next : ∀ σ' τ' : Kmem, R σ' τ' → Lx G G' b L xs 2164 i [] σ' τ') : Lx G G' b L xs 2013 i [] σ τ := by
  refine L_a1 (by decide +kernel) ?_
  refine L_arg (j := 1) (by decide +kernel) (by decide +kernel) (by decide +kernel) (by decide +kernel) (by decide +kernel) hL (by omega) ?_
  obtain ⟨Q1, Q2, r1, r2, r3⟩ := O_share (G := G) (G' := G') (l1 := sxs xs (i + 1)) h sxs_r
  refine L_callX (M' := M_X11_share) (d' := 1) (as := [vI (sxs xs (i + 1))]) (st := []) (by decide +kernel) (kCVof m_X11_share l_L_245) rfl (by decide) (by decide) rfl _ rfl (by decide) r1 (fun v σ' q1 => ?_)
  refine L_a2 (by decide +kernel) ?_
  refine L_arg (j := 1) (by decide +kernel) (by decide +kernel) (by decide +kernel) (by decide +kernel) (by decide +kernel) hL (by omega) ?_
  refine L_callM (M' := M_X12_share) (d' := 2) (as := [vI (sxs xs (i + 1))]) (st := [vI v]) (by decide +kernel) (kCVof m_X12_share l_L_248) rfl (by decide) (by decide) rfl _ rfl (by show (1 : Nat) ≤ 8; decide) r2 (fun v' τ' q2 => ?_)
  obtain ⟨e, h'⟩ := r3 _ _ _ _ q1 q2
  subst e
  exact L_ieq (o := 133) 2164 (by decide +kernel) (by decide) (next _ _ h')
theorem law_shaded {G G' : Kg} {b L : Nat} {xs : Nat → Int32} {i : Int} {σ τ : Kmem} (hL : L ≤ 3072) (hi : 0 ≤ i ∧ i + 6 ≤ L) (h : R σ τ) (next : ∀ σ' τ' : Kmem, R σ' τ' → Lx G G' b L xs 2164 i [] σ' τ') : Lx G G' b L xs 2036 i [] σ τ := by
  refine L_a1 (by decide +kernel) ?_
  obtain ⟨Q1, Q2, r1, r2, r3⟩ := O_shaded (G := G) (G' := G')  h
  refine L_callX (M' := M_X11_shaded) (d' := 4) (as := []) (st := []) (by decide +kernel) (kCVof m_X11_shaded l_L_249) rfl (by decide) (by decide) rfl _ rfl (by decide) r1 (fun v σ' q1 => ?_)
  refine L_a2 (by decide +kernel) ?_
  refine L_callM (M' := M_X12_shaded) (d' := 8) (as := []) (st := [vI v]) (by decide +kernel) (kCVof m_X12_shaded l_L_253) rfl (by decide) (by decide) rfl _ rfl (by show (1 : Nat) ≤ 8; decide) r2 (fun v' τ' q2 => ?_)
  obtain ⟨e, h'⟩ := r3 _ _ _ _ q1 q2
  subst e
  exact L_ieq (o := 120) 2164 (by decide +kernel) (by decide) (next _ _ h')
theorem law_live {G G' : Kg} {b L : Nat} {xs : Nat → Int32} {i : Int} {σ τ : Kmem} (hL : L ≤ 3072) (hi : 0 ≤ i ∧ i + 6 ≤ L) (h : R σ τ) (next : ∀ σ' τ' : Kmem, R σ' τ' → Lx G G' b L xs 2164 i [] σ' τ') : Lx G G' b L xs 2049 i [] σ τ := by
  refine L_a1 (by decide +kernel) ?_
  refine L_arg (j := 1) (by decide +kernel) (by decide +kernel) (by decide +kernel) (by decide +kernel) (by decide +kernel) hL (by omega) ?_
  obtain ⟨Q1, Q2, r1, r2, r3⟩ := O_live (G := G) (G' := G') (l1 := sxs xs (i + 1)) h sxs_r
  refine L_callX (M' := M_X11_live) (d' := 7) (as := [vI (sxs xs (i + 1))]) (st := []) (by decide +kernel) (kCVof m_X11_live l_L_254) rfl (by decide) (by decide) rfl _ rfl (by decide) r1 (fun v σ' q1 => ?_)
  refine L_a2 (by decide +kernel) ?_
  refine L_arg (j := 1) (by decide +kernel) (by decide +kernel) (by decide +kernel) (by decide +kernel) (by decide +kernel) hL (by omega) ?_
  refine L_callM (M' := M_X12_live) (d' := 12) (as := [vI (sxs xs (i + 1))]) (st := [vI v]) (by decide +kernel) (kCVof m_X12_live l_L_257) rfl (by decide) (by decide) rfl _ rfl (by show (1 : Nat) ≤ 8; decide) r2 (fun v' τ' q2 => ?_)
  obtain ⟨e, h'⟩ := r3 _ _ _ _ q1 q2
  subst e
  exact L_ieq (o := 97) 2164 (by decide +kernel) (by decide) (next _ _ h')
theorem law_lived {G G' : Kg} {b L : Nat} {xs : Nat → Int32} {i : Int} {σ τ : Kmem} (hL : L ≤ 3072) (hi : 0 ≤ i ∧ i + 6 ≤ L) (h : R σ τ) (next : ∀ σ' τ' : Kmem, R σ' τ' → Lx G G' b L xs 2164 i [] σ' τ') : Lx G G' b L xs 2072 i [] σ τ := by
  refine L_a1 (by decide +kernel) ?_
  refine L_arg (j := 1) (by decide +kernel) (by decide +kernel) (by decide +kernel) (by decide +kernel) (by decide +kernel) hL (by omega) ?_
  obtain ⟨Q1, Q2, r1, r2, r3⟩ := O_lived (G := G) (G' := G') (l1 := sxs xs (i + 1)) h sxs_r
  refine L_callX (M' := M_X11_lived) (d' := 1) (as := [vI (sxs xs (i + 1))]) (st := []) (by decide +kernel) (kCVof m_X11_lived l_L_258) rfl (by decide) (by decide) rfl _ rfl (by decide) r1 (fun v σ' q1 => ?_)
  refine L_a2 (by decide +kernel) ?_
  refine L_arg (j := 1) (by decide +kernel) (by decide +kernel) (by decide +kernel) (by decide +kernel) (by decide +kernel) hL (by omega) ?_
  refine L_callM (M' := M_X12_lived) (d' := 1) (as := [vI (sxs xs (i + 1))]) (st := [vI v]) (by decide +kernel) (kCVof m_X12_lived l_L_261) rfl (by decide) (by decide) rfl _ rfl (by show (1 : Nat) ≤ 8; decide) r2 (fun v' τ' q2 => ?_)
  obtain ⟨e, h'⟩ := r3 _ _ _ _ q1 q2
  subst e
  exact L_ieq (o := 74) 2164 (by decide +kernel) (by decide) (next _ _ h')
theorem law_mean {G G' : Kg} {b L : Nat} {xs : Nat → Int32} {i : Int} {σ τ : Kmem} (hL : L ≤ 3072) (hi : 0 ≤ i ∧ i + 6 ≤ L) (h : R σ τ) (next : ∀ σ' τ' : Kmem, R σ' τ' → Lx G G' b L xs 2164 i [] σ' τ') : Lx G G' b L xs 2095 i [] σ τ := by
  refine L_a1 (by decide +kernel) ?_
  refine L_arg (j := 1) (by decide +kernel) (by decide +kernel) (by decide +kernel) (by decide +kernel) (by decide +kernel) hL (by omega) ?_
  refine L_arg (j := 2) (by decide +kernel) (by decide +kernel) (by decide +kernel) (by decide +kernel) (by decide +kernel) hL (by omega) ?_
  refine L_arg (j := 3) (by decide +kernel) (by decide +kernel) (by decide +kernel) (by decide +kernel) (by decide +kernel) hL (by omega) ?_
  obtain ⟨Q1, Q2, r1, r2, r3⟩ := O_mean (G := G) (G' := G') (l1 := sxs xs (i + 1)) (l2 := sxs xs (i + 2)) (l3 := sxs xs (i + 3)) h sxs_r sxs_r sxs_r
  refine L_callX (M' := M_X11_mean) (d' := 7) (as := [vI (sxs xs (i + 1)), vI (sxs xs (i + 2)), vI (sxs xs (i + 3))]) (st := []) (by decide +kernel) (kCVof m_X11_mean l_L_262) rfl (by decide) (by decide) rfl _ rfl (by decide) r1 (fun v σ' q1 => ?_)
  refine L_a2 (by decide +kernel) ?_
  refine L_arg (j := 1) (by decide +kernel) (by decide +kernel) (by decide +kernel) (by decide +kernel) (by decide +kernel) hL (by omega) ?_
  refine L_arg (j := 2) (by decide +kernel) (by decide +kernel) (by decide +kernel) (by decide +kernel) (by decide +kernel) hL (by omega) ?_
  refine L_arg (j := 3) (by decide +kernel) (by decide +kernel) (by decide +kernel) (by decide +kernel) (by decide +kernel) hL (by omega) ?_
  refine L_callM (M' := M_X12_mean) (d' := 12) (as := [vI (sxs xs (i + 1)), vI (sxs xs (i + 2)), vI (sxs xs (i + 3))]) (st := [vI v]) (by decide +kernel) (kCVof m_X12_mean l_L_265) rfl (by decide) (by decide) rfl _ rfl (by show (1 : Nat) ≤ 8; decide) r2 (fun v' τ' q2 => ?_)
  obtain ⟨e, h'⟩ := r3 _ _ _ _ q1 q2
  subst e
  exact L_ieq (o := 31) 2164 (by decide +kernel) (by decide) (next _ _ h')
theorem law_mark {G G' : Kg} {b L : Nat} {xs : Nat → Int32} {i : Int} {σ τ : Kmem} (hL : L ≤ 3072) (hi : 0 ≤ i ∧ i + 6 ≤ L) (h : R σ τ) (next : ∀ σ' τ' : Kmem, R σ' τ' → Lx G G' b L xs 2164 i [] σ' τ') : Lx G G' b L xs 2138 i [] σ τ := by
  refine L_a1 (by decide +kernel) ?_
  obtain ⟨Q1, Q2, r1, r2, r3⟩ := O_mark (G := G) (G' := G')  h
  refine L_callX (M' := M_X11_mark) (d' := 2) (as := []) (st := []) (by decide +kernel) (kCVof m_X11_mark l_L_266) rfl (by decide) (by decide) rfl _ rfl (by decide) r1 (fun v σ' q1 => ?_)
  refine L_a2 (by decide +kernel) ?_
  refine L_callM (M' := M_X12_mark) (d' := 1) (as := []) (st := [vI v]) (by decide +kernel) (kCVof m_X12_mark l_L_269) rfl (by decide) (by decide) rfl _ rfl (by show (1 : Nat) ≤ 8; decide) r2 (fun v' τ' q2 => ?_)
  obtain ⟨e, h'⟩ := r3 _ _ _ _ q1 q2
  subst e
  exact L_ieq (o := 18) 2164 (by decide +kernel) (by decide) (next _ _ h')
theorem law_undo {G G' : Kg} {b L : Nat} {xs : Nat → Int32} {i : Int} {σ τ : Kmem} (hL : L ≤ 3072) (hi : 0 ≤ i ∧ i + 6 ≤ L) (h : R σ τ) (next : ∀ σ' τ' : Kmem, R σ' τ' → Lx G G' b L xs 2164 i [] σ' τ') : Lx G G' b L xs 2151 i [] σ τ := by
  refine L_a1 (by decide +kernel) ?_
  obtain ⟨Q1, Q2, r1, r2, r3⟩ := O_undo (G := G) (G' := G')  h
  refine L_callX (M' := M_X11_undo) (d' := 2) (as := []) (st := []) (by decide +kernel) (kCVof m_X11_undo l_L_270) rfl (by decide) (by decide) rfl _ rfl (by decide) r1 (fun v σ' q1 => ?_)
  refine L_a2 (by decide +kernel) ?_
  refine L_callM (M' := M_X12_undo) (d' := 1) (as := []) (st := [vI v]) (by decide +kernel) (kCVof m_X12_undo l_L_273) rfl (by decide) (by decide) rfl _ rfl (by show (1 : Nat) ≤ 8; decide) r2 (fun v' τ' q2 => ?_)
  obtain ⟨e, h'⟩ := r3 _ _ _ _ q1 q2
  subst e
  exact L_ieq (o := 5) 2164 (by decide +kernel) (by decide) (next _ _ h')
