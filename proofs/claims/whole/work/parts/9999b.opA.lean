theorem Op_same {G G' : Kg} {M M' : Km} {d d' : Nat} {as as' : List Value} {σ τ : Kmem} (a : Int) (h : R σ τ) (hx : Run G WX M d 0 0 as σ (fun r s => r = a ∧ s = σ)) (hm : Run G' WM M' d' 0 0 as' τ (fun r t => r = a ∧ t = τ)) : Op G G' M M' d d' as as' σ τ :=
  ⟨_, _, hx, hm, fun _ _ _ _ x y => ⟨x.1.trans y.1.symm, by rw [x.2, y.2]; exact h⟩⟩
theorem O_status {G G' : Kg} {σ τ : Kmem} (h : R σ τ) : Op G G' M_X11_status M_X12_status 0 0 [vA G 0] [vA G' 0] σ τ := Op_same _ h (S_X11_status ⟨h.2.2.1.1.1, rfl⟩) (S_X12_status ⟨rfl, rfl⟩)
theorem O_top {G G' : Kg} {σ τ : Kmem} (h : R σ τ) : Op G G' M_X11_top M_X12_top 0 0 [vA G 0] [vA G' 0] σ τ := Op_same _ h (S_X11_top ⟨h.2.2.1.2.1.1, rfl⟩) (S_X12_top ⟨rfl, rfl⟩)
theorem O_bottom {G G' : Kg} {σ τ : Kmem} (h : R σ τ) : Op G G' M_X11_bottom M_X12_bottom 0 0 [vA G 0] [vA G' 0] σ τ := Op_same _ h (S_X11_bottom ⟨h.2.2.1.2.2.1, rfl⟩) (S_X12_bottom ⟨rfl, rfl⟩)
theorem O_fault {G G' : Kg} {σ τ : Kmem} {l1 : Int} (h : R σ τ) (r1 : rI l1) : Op G G' M_X11_fault M_X12_fault 0 0 [vA G 0, vI l1] [vA G' 0, vI l1] σ τ := by
  obtain ⟨f1, f3⟩ := h.2.2.2.2.1
  by_cases c0 : l1 = 0
  · refine Op_same (τ 0 16) h (S_X11_fault ?_) (S_X12_fault ?_)
    all_goals (repeat' (with_reducible first | assumption | intro _ | refine And.intro ?_ ?_))
    all_goals (first | omega | contradiction | rfl | exact fX.refl | exact fM.refl | exact kb_0 (by decide) | exact kb_1 rfl | trivial | skip)
  by_cases c1 : l1 = 1
  · refine Op_same (τ 0 17) h (S_X11_fault ?_) (S_X12_fault ?_)
    all_goals (repeat' (with_reducible first | assumption | intro _ | refine And.intro ?_ ?_))
    all_goals (first | omega | contradiction | rfl | exact fX.refl | exact fM.refl | exact kb_0 (by decide) | exact kb_1 rfl | trivial | skip)
  · refine Op_same (-1) h (S_X11_fault ?_) (S_X12_fault ?_)
    all_goals (repeat' (with_reducible first | assumption | intro _ | refine And.intro ?_ ?_))
    all_goals (first | omega | contradiction | rfl | exact fX.refl | exact fM.refl | exact kb_0 (by decide) | exact kb_1 rfl | trivial | skip)
theorem O_wind {G G' : Kg} {σ τ : Kmem} {l1 l2 : Int} (h : R σ τ) (r1 : rI l1) (r2 : rI l2) : Op G G' M_X11_wind M_X12_wind 1 1 [vA G 0, vI l1, vI l2] [vA G' 0, vI l1, vI l2] σ τ := by
  obtain ⟨w, k⟩ := R_w h
  by_cases c : sHr l1 ∧ 0 ≤ l2 ∧ l2 ≤ 1
  · have K := k.2.1 l1 c.1.1 c.1.2
    have z : l2 = 0 ∨ l2 = 1 := by omega
    rcases z with rfl | rfl
    · have K1 : σ (5 + 1) l1 = τ 1 ((10 + (2 * l1)) + 0) := by rw [Int.add_zero]; exact K.1
      refine Op_pure (τ 1 ((10 + (2 * l1)) + 0)) 0 h (by decide) (S_X11_wind ?_) (S_X12_wind ?_)
      all_goals (repeat' (with_reducible first | assumption | intro _ | refine And.intro ?_ ?_))
      all_goals (first | omega | contradiction | rfl | exact fX.refl | exact fM.refl | exact kb_0 (by decide) | exact kb_1 rfl | trivial | skip)
    · have K1 : σ (5 + 2) l1 = τ 1 ((10 + (2 * l1)) + 1) := K.2
      refine Op_pure (τ 1 ((10 + (2 * l1)) + 1)) 0 h (by decide) (S_X11_wind ?_) (S_X12_wind ?_)
      all_goals (repeat' (with_reducible first | assumption | intro _ | refine And.intro ?_ ?_))
      all_goals (first | omega | contradiction | rfl | exact fX.refl | exact fM.refl | exact kb_0 (by decide) | exact kb_1 rfl | trivial | skip)
  · refine Op_pure (-1) 1 h (by decide) (S_X11_wind ?_) (S_X12_wind ?_)
    all_goals (repeat' (with_reducible first | assumption | intro _ | refine And.intro ?_ ?_))
    all_goals (first | omega | contradiction | rfl | exact fX.refl | exact fM.refl | exact kb_0 (by decide) | exact kb_1 rfl | trivial | skip)
theorem O_kite {G G' : Kg} {σ τ : Kmem} {l1 l2 : Int} (h : R σ τ) (r1 : rI l1) (r2 : rI l2) : Op G G' M_X11_kite M_X12_kite 1 2 [vA G 0, vI l1, vI l2] [vA G' 0, vI l1, vI l2] σ τ := by
  obtain ⟨w, k⟩ := R_w h
  have w1 := wf_h w
  by_cases c : sKt (τ 1) l1 ∧ 0 ≤ l2 ∧ l2 ≤ 7
  · obtain ⟨⟨K1, K2, K3⟩, ⟨K4, K5, K6⟩, K7, K8, K9⟩ := k.2.2.1 l1 c.1.1 c.1.2
    rw [show 34 + 9 * l1 = 34 + (9 * l1) + 0 by omega] at K1
    have z : l2 = 0 ∨ l2 = 1 ∨ l2 = 2 ∨ l2 = 3 ∨ l2 = 4 ∨ l2 = 5 ∨ l2 = 6 ∨ l2 = 7 := by omega
    refine Op_pure (τ 1 ((34 + (9 * l1)) + l2)) 0 h (by decide) (S_X11_kite (v := τ 1) ?_) (S_X12_kite ?_)
    · rcases z with rfl | rfl | rfl | rfl | rfl | rfl | rfl | rfl
      all_goals (repeat' (with_reducible first | assumption | intro _ | refine And.intro ?_ ?_))
      all_goals (first | omega | contradiction | rfl | exact fX.refl | exact fM.refl | exact kb_0 (by decide) | exact kb_1 rfl | trivial | skip)
    · all_goals (repeat' (with_reducible first | assumption | intro _ | refine And.intro ?_ ?_))
      all_goals (first | omega | contradiction | rfl | exact fX.refl | exact fM.refl | exact kb_0 (by decide) | exact kb_1 rfl | trivial | skip)
  · refine Op_pure (-1) 1 h (by decide) (S_X11_kite (v := τ 1) ?_) (S_X12_kite ?_)
    all_goals (repeat' (with_reducible first | assumption | intro _ | refine And.intro ?_ ?_))
    all_goals (first | omega | contradiction | rfl | exact fX.refl | exact fM.refl | exact kb_0 (by decide) | exact kb_1 rfl | trivial | skip)
theorem O_crop {G G' : Kg} {σ τ : Kmem} {l1 l2 : Int} (h : R σ τ) (r1 : rI l1) (r2 : rI l2) : Op G G' M_X11_crop M_X12_crop 1 1 [vA G 0, vI l1, vI l2] [vA G' 0, vI l1, vI l2] σ τ := by
  obtain ⟨w, k⟩ := R_w h
  have w1 := wf_h w
  by_cases c : (0 ≤ l1 ∧ l1 < τ 1 3) ∧ 0 ≤ l2 ∧ l2 ≤ 3
  · obtain ⟨⟨K1, K2⟩, K3, K4⟩ := k.2.2.2.1 l1 c.1.1 c.1.2
    rw [show 88 + 4 * l1 = 88 + (4 * l1) + 0 by omega] at K1
    have z : l2 = 0 ∨ l2 = 1 ∨ l2 = 2 ∨ l2 = 3 := by omega
    refine Op_pure (τ 1 ((88 + (4 * l1)) + l2)) 0 h (by decide) (S_X11_crop (v := τ 1) ?_) (S_X12_crop ?_)
    · rcases z with rfl | rfl | rfl | rfl
      all_goals (repeat' (with_reducible first | assumption | intro _ | refine And.intro ?_ ?_))
      all_goals (first | omega | contradiction | rfl | exact fX.refl | exact fM.refl | exact kb_0 (by decide) | exact kb_1 rfl | trivial | skip)
    · all_goals (repeat' (with_reducible first | assumption | intro _ | refine And.intro ?_ ?_))
      all_goals (first | omega | contradiction | rfl | exact fX.refl | exact fM.refl | exact kb_0 (by decide) | exact kb_1 rfl | trivial | skip)
  · refine Op_pure (-1) 1 h (by decide) (S_X11_crop (v := τ 1) ?_) (S_X12_crop ?_)
    all_goals (repeat' (with_reducible first | assumption | intro _ | refine And.intro ?_ ?_))
    all_goals (first | omega | contradiction | rfl | exact fX.refl | exact fM.refl | exact kb_0 (by decide) | exact kb_1 rfl | trivial | skip)
theorem O_tenant {G G' : Kg} {σ τ : Kmem} {l1 l2 : Int} (h : R σ τ) (r1 : rI l1) (r2 : rI l2) : Op G G' M_X11_tenant M_X12_tenant 1 1 [vA G 0, vI l1, vI l2] [vA G' 0, vI l1, vI l2] σ τ := by
  obtain ⟨w, k⟩ := R_w h
  have w1 := wf_h w
  by_cases c : (0 ≤ l1 ∧ l1 < τ 1 4) ∧ 0 ≤ l2 ∧ l2 ≤ 4
  · obtain ⟨⟨K1, K2⟩, K3, K4, K5⟩ := k.2.2.2.2 l1 c.1.1 c.1.2
    rw [show 120 + 5 * l1 = 120 + (5 * l1) + 0 by omega] at K1
    have z : l2 = 0 ∨ l2 = 1 ∨ l2 = 2 ∨ l2 = 3 ∨ l2 = 4 := by omega
    refine Op_pure (τ 1 ((120 + (5 * l1)) + l2)) 0 h (by decide) (S_X11_tenant (v := τ 1) ?_) (S_X12_tenant ?_)
    · rcases z with rfl | rfl | rfl | rfl | rfl
      all_goals (repeat' (with_reducible first | assumption | intro _ | refine And.intro ?_ ?_))
      all_goals (first | omega | contradiction | rfl | exact fX.refl | exact fM.refl | exact kb_0 (by decide) | exact kb_1 rfl | trivial | skip)
    · all_goals (repeat' (with_reducible first | assumption | intro _ | refine And.intro ?_ ?_))
      all_goals (first | omega | contradiction | rfl | exact fX.refl | exact fM.refl | exact kb_0 (by decide) | exact kb_1 rfl | trivial | skip)
  · refine Op_pure (-1) 1 h (by decide) (S_X11_tenant (v := τ 1) ?_) (S_X12_tenant ?_)
    all_goals (repeat' (with_reducible first | assumption | intro _ | refine And.intro ?_ ?_))
    all_goals (first | omega | contradiction | rfl | exact fX.refl | exact fM.refl | exact kb_0 (by decide) | exact kb_1 rfl | trivial | skip)
theorem fX_sky {s σ : Kmem} (h : kfm sky2 s σ) : fX s σ := fX_of h (fun x q => by unfold scX; have := q.1; have := q.2; omega)
theorem O_told {G G' : Kg} {σ τ : Kmem} {l1 : Int} (h : R σ τ) (r1 : rI l1) : Op G G' M_X11_told M_X12_told 5 5 [vA G 0, vI l1] [vA G' 0, vI l1] σ τ := by
  obtain ⟨w, k⟩ := R_w h
  have w1 := wf_h w
  obtain ⟨⟨a0, a1, a2, a3⟩, a4, a5, a6, a7⟩ := kco_h k
  by_cases c : 0 ≤ l1 ∧ l1 ≤ 7
  · have z : l1 = 0 ∨ l1 = 1 ∨ l1 = 2 ∨ l1 = 3 ∨ l1 = 4 ∨ l1 = 5 ∨ l1 = 6 ∨ l1 = 7 := by omega
    refine Op_pure (τ 1 l1) 0 h (by decide) (S_X11_told (v := τ 1) ?_) (S_X12_told ?_)
    · rcases z with rfl | rfl | rfl | rfl | rfl | rfl | rfl | rfl
      all_goals (repeat' (with_reducible first | assumption | intro _ | refine And.intro ?_ ?_))
      all_goals (first | omega | contradiction | rfl | exact fX.refl | exact fM.refl | exact kb_0 (by decide) | exact kb_1 rfl | trivial | skip)
    · all_goals (repeat' (with_reducible first | assumption | intro _ | refine And.intro ?_ ?_))
      all_goals (first | omega | contradiction | rfl | exact fX.refl | exact fM.refl | exact kb_0 (by decide) | exact kb_1 rfl | trivial | skip)
  by_cases c8 : l1 = 8
  · subst c8
    have e0 : sSet (τ 1) (8 - 8) = kset (fun k => sUp (τ 1) k (τ 1 7 % 12)) (τ 1 2).toNat := kif_t (by omega)
    refine Op_pure (sSet (τ 1) (8 - 8) : Int) 0 h (by decide) (S_X11_told (v := τ 1) ?_) (S_X12_told ?_)
    all_goals (repeat' (with_reducible first | assumption | intro _ | refine And.intro ?_ ?_))
    all_goals (first | omega | contradiction | rfl | exact fX.refl | exact fM.refl | exact kb_0 (by decide) | exact kb_1 rfl | trivial | skip)
    refine Run.mono (P_X11_lookNow (v := τ 1) ⟨w, k⟩) (fun r s e => ⟨?_, fX_st (fX_sky e.2.1)⟩)
    rw [e0, e.2.2.2.1.2.1]
    exact congrArg _ (kset_ext _ (fun i hi => ⟨fun q => ⟨q.2, q.1⟩, fun q => ⟨q.2, q.1⟩⟩))
  by_cases c9 : l1 = 9
  · subst c9
    have e0 : sSet (τ 1) (9 - 8) = kset (fun k => τ 1 (34 + 9 * k + 8) = 1) (τ 1 2).toNat := by
      unfold sSet; rw [kif_f (by omega), kif_t (by omega)]
    refine Op_pure (sSet (τ 1) (9 - 8) : Int) 0 h (by decide) (S_X11_told (v := τ 1) ?_) (S_X12_told ?_)
    all_goals (repeat' (with_reducible first | assumption | intro _ | refine And.intro ?_ ?_))
    all_goals (first | omega | contradiction | rfl | exact fX.refl | exact fM.refl | exact kb_0 (by decide) | exact kb_1 rfl | trivial | skip)
    all_goals rw [e0]
  by_cases c10 : l1 = 10
  · subst c10
    have e0 : sSet (τ 1) (10 - 8) = kset (fun c => τ 1 (88 + 4 * c + 2) ≤ τ 1 (88 + 4 * c + 3)) (τ 1 3).toNat := by
      unfold sSet; rw [kif_f (by omega), kif_f (by omega)]
    refine Op_pure (sSet (τ 1) (10 - 8) : Int) 0 h (by decide) (S_X11_told (v := τ 1) ?_) (S_X12_told ?_)
    all_goals (repeat' (with_reducible first | assumption | intro _ | refine And.intro ?_ ?_))
    all_goals (first | omega | contradiction | rfl | exact fX.refl | exact fM.refl | exact kb_0 (by decide) | exact kb_1 rfl | trivial | skip)
    all_goals rw [e0]
  · refine Op_pure (-1) 1 h (by decide) (S_X11_told (v := τ 1) ?_) (S_X12_told ?_)
    all_goals (repeat' (with_reducible first | assumption | intro _ | refine And.intro ?_ ?_))
    all_goals (first | omega | contradiction | rfl | exact fX.refl | exact fM.refl | exact kb_0 (by decide) | exact kb_1 rfl | trivial | skip)
