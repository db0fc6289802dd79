theorem fX_31 {s σ : Kmem} (h : kfm (fun x => 31 ≤ x ∧ x ≤ 63) s σ) : fX s σ := fX_of h (fun x q => by unfold scX; have := q.1; have := q.2; omega)
theorem fX_c31 {s σ : Kmem} (h : kfm (ctyC 31) s σ) : fX s σ := fX_of h (fun x q => by unfold scX; have := q.1; have := q.2; omega)
theorem fM_keep {τ : Kmem} {to : Int} (h : 2056 ≤ to) : fM (kst τ 1 (sKeep (τ 1) to)) τ := fM_kst1 (fun j a b => if_neg (by omega))
/-- the class's copy of the county, as the reference keeps it -/
theorem kco_keep {σ : Kmem} {c to : Int} {v : Int → Int} (w : wf v) (k : kco σ c v) (h : 150 ≤ to) : kco σ c (sKeep v to) := kco_ext w (fun j a b => if_neg (by omega)) k
theorem keep_0 {v : Int → Int} {to j : Int} (h : j < to) : sKeep v to j = v j := if_neg (by omega)
theorem O_purseIn {G G' : Kg} {σ τ : Kmem} {l1 l2 : Int} (h : R σ τ) (r1 : rI l1) (r2 : rI l2) : Op G G' M_X11_purseIn M_X12_purseIn 6 10 [vA G 0, vI l1, vI l2] [vA G' 0, vI l1, vI l2] σ τ := by
  obtain ⟨w, k⟩ := R_w h
  have w1 := wf_h w
  have h7 := h.1.1.2.2
  have wk := wf_keep (to := 3084) w (by omega)
  have k7 : sKeep (τ 1) 3084 7 = τ 1 7 := keep_0 (by omega)
  have k2 : sKeep (τ 1) 3084 2 = τ 1 2 := keep_0 (by omega)
  by_cases c : sKt (τ 1) l1 ∧ 0 ≤ l2 ∧ l2 ≤ 99
  · obtain ⟨c, d⟩ := c
    have c1 := c.1
    have c2 := c.2
    have ok := sHours_ok wk l2.toNat (by omega)
    refine Op_pure (sHours (sKeep (τ 1) 3084) l2.toNat (34 + 9 * l1 + 5)) 0 h (by decide) (S_X11_purseIn (v := τ 1) ?_) (S_X12_purseIn ?_)
    · all_goals (repeat' (with_reducible first | assumption | intro _ | refine And.intro ?_ ?_))
      all_goals (first | omega | contradiction | rfl | exact fX.refl | exact fM.refl | exact kb_0 (by decide) | exact kb_1 rfl | trivial | skip)
      refine Run.mono (P_X11_goAhead (v := sKeep (τ 1) 3084) ⟨⟨wk, kco_keep w k (by omega)⟩, by omega, d⟩) (fun r s e => ?_)
      obtain ⟨-, e1, e2⟩ := e
      have K := (e2.2.2.1 l1 c1 (by rw [ok.2.1 2 (by omega) (by omega) (by omega), k2]; exact c2)).2.1.2.2
      exact ⟨by omega, K, fX_st (fX_31 e1)⟩
    · rw [kst_eq]
      simp only [kst_eq, kst_kst]
      rw [sRest_keep ok.2.2.2 (by omega)]
      all_goals (repeat' (with_reducible first | assumption | intro _ | refine And.intro ?_ ?_))
      all_goals (first | omega | contradiction | rfl | exact fX.refl | exact fM.refl | exact kb_0 (by decide) | exact kb_1 rfl | trivial | skip)
      exact fM_st (fM_keep (to := 3084) (by omega))
  · refine Op_pure (-1) 1 h (by decide) (S_X11_purseIn (v := τ 1) ?_) (S_X12_purseIn ?_)
    all_goals (repeat' (with_reducible first | assumption | intro _ | refine And.intro ?_ ?_))
    all_goals (first | omega | contradiction | rfl | exact fX.refl | exact fM.refl | exact kb_0 (by decide) | exact kb_1 rfl | trivial | skip)
theorem O_tenantIn {G G' : Kg} {σ τ : Kmem} {l1 l2 : Int} (h : R σ τ) (r1 : rI l1) (r2 : rI l2) : Op G G' M_X11_tenantIn M_X12_tenantIn 6 10 [vA G 0, vI l1, vI l2] [vA G' 0, vI l1, vI l2] σ τ := by
  obtain ⟨w, k⟩ := R_w h
  have w1 := wf_h w
  have h7 := h.1.1.2.2
  have wk := wf_keep (to := 3084) w (by omega)
  have k7 : sKeep (τ 1) 3084 7 = τ 1 7 := keep_0 (by omega)
  have k4 : sKeep (τ 1) 3084 4 = τ 1 4 := keep_0 (by omega)
  by_cases c : (0 ≤ l1 ∧ l1 < τ 1 4) ∧ 0 ≤ l2 ∧ l2 ≤ 99
  · obtain ⟨c, d⟩ := c
    have c1 := c.1
    have c2 := c.2
    have ok := sHours_ok wk l2.toNat (by omega)
    refine Op_pure (10 * sHours (sKeep (τ 1) 3084) l2.toNat (120 + 5 * l1 + 1) + sHours (sKeep (τ 1) 3084) l2.toNat (120 + 5 * l1)) 0 h (by decide) (S_X11_tenantIn (v := τ 1) ?_) (S_X12_tenantIn ?_)
    · all_goals (repeat' (with_reducible first | assumption | intro _ | refine And.intro ?_ ?_))
      all_goals (first | omega | contradiction | rfl | exact fX.refl | exact fM.refl | exact kb_0 (by decide) | exact kb_1 rfl | trivial | skip)
      refine Run.mono (P_X11_goAhead (v := sKeep (τ 1) 3084) ⟨⟨wk, kco_keep w k (by omega)⟩, by omega, d⟩) (fun r s e => ?_)
      obtain ⟨-, e1, e2⟩ := e
      have K := (e2.2.2.2.2 l1 c1 (by rw [ok.2.1 4 (by omega) (by omega) (by omega), k4]; exact c2)).1
      rw [K.1, K.2]
      exact ⟨by omega, by omega, by omega, fX_st (fX_31 e1)⟩
    · simp only [kst_eq, kst_kst]
      rw [sRest_keep ok.2.2.2 (by omega)]
      all_goals (repeat' (with_reducible first | assumption | intro _ | refine And.intro ?_ ?_))
      all_goals (first | omega | contradiction | rfl | exact fX.refl | exact fM.refl | exact kb_0 (by decide) | exact kb_1 rfl | trivial | skip)
      exact fM_st (fM_keep (to := 3084) (by omega))
  · refine Op_pure (-1) 1 h (by decide) (S_X11_tenantIn (v := τ 1) ?_) (S_X12_tenantIn ?_)
    all_goals (repeat' (with_reducible first | assumption | intro _ | refine And.intro ?_ ?_))
    all_goals (first | omega | contradiction | rfl | exact fX.refl | exact fM.refl | exact kb_0 (by decide) | exact kb_1 rfl | trivial | skip)
theorem O_flyAt {G G' : Kg} {σ τ : Kmem} {l1 : Int} (h : R σ τ) (r1 : rI l1) : Op G G' M_X11_flyAt M_X12_flyAt 1 1 [vA G 0, vI l1] [vA G' 0, vI l1] σ τ := by
  obtain ⟨⟨f1, f2, f3⟩, f4⟩ := h.2.2.2.2.2.2.1
  by_cases c : 0 ≤ l1
  · by_cases d : l1 < τ 0 26
    · have F := f4 l1 c d
      refine Op_pure (τ 10 l1) 0 h (by decide) (S_X11_flyAt ?_) (S_X12_flyAt ?_)
      · rw [f1]
        all_goals (repeat' (with_reducible first | assumption | intro _ | refine And.intro ?_ ?_))
        all_goals (first | omega | contradiction | rfl | exact fX.refl | exact fM.refl | exact kb_0 (by decide) | exact kb_1 rfl | trivial | skip)
      · all_goals (repeat' (with_reducible first | assumption | intro _ | refine And.intro ?_ ?_))
        all_goals (first | omega | contradiction | rfl | exact fX.refl | exact fM.refl | exact kb_0 (by decide) | exact kb_1 rfl | trivial | skip)
    · refine Op_pure (-1) 6 h (by decide) (S_X11_flyAt ?_) (S_X12_flyAt ?_)
      · rw [f1]
        all_goals (repeat' (with_reducible first | assumption | intro _ | refine And.intro ?_ ?_))
        all_goals (first | omega | contradiction | rfl | exact fX.refl | exact fM.refl | exact kb_0 (by decide) | exact kb_1 rfl | trivial | skip)
      · all_goals (repeat' (with_reducible first | assumption | intro _ | refine And.intro ?_ ?_))
        all_goals (first | omega | contradiction | rfl | exact fX.refl | exact fM.refl | exact kb_0 (by decide) | exact kb_1 rfl | trivial | skip)
  · refine Op_pure (-1) 1 h (by decide) (S_X11_flyAt ?_) (S_X12_flyAt ?_)
    all_goals (repeat' (with_reducible first | assumption | intro _ | refine And.intro ?_ ?_))
    all_goals (first | omega | contradiction | rfl | exact fX.refl | exact fM.refl | exact kb_0 (by decide) | exact kb_1 rfl | trivial | skip)
theorem O_strips {G G' : Kg} {σ τ : Kmem} {l1 : Int} (h : R σ τ) (r1 : rI l1) : Op G G' M_X11_strips M_X12_strips 6 7 [vA G 0, vI l1] [vA G' 0, vI l1] σ τ := by
  obtain ⟨w, k⟩ := R_w h
  have w1 := wf_h w
  by_cases c : 0 ≤ l1 ∧ l1 < τ 1 1
  · refine Op_pure (sStrips (τ 1) l1 (τ 1 2).toNat) 0 h (by decide) (S_X11_strips (v := τ 1) ?_) (S_X12_strips ?_)
    · all_goals (repeat' (with_reducible first | assumption | intro _ | refine And.intro ?_ ?_))
      all_goals (first | omega | contradiction | rfl | exact fX.refl | exact fM.refl | exact kb_0 (by decide) | exact kb_1 rfl | trivial | skip)
      refine Run.mono (P_X0_copy (v := τ 1) isC_31 isC_5 ⟨by decide, w, k⟩) (fun r s e => ?_)
      obtain ⟨-, e1, e2, -⟩ := e
      refine Run.mono (P_X5_unlikeStrips (v := τ 1) ⟨⟨w, e2⟩, c⟩) (fun r2 s2 f => ?_)
      exact ⟨f.1, fX_st ((fX_of f.2.1 (fun x q => by unfold scX; omega)).trans (fX_c31 e1))⟩
    · all_goals (repeat' (with_reducible first | assumption | intro _ | refine And.intro ?_ ?_))
      all_goals (first | omega | contradiction | rfl | exact fX.refl | exact fM.refl | exact kb_0 (by decide) | exact kb_1 rfl | trivial | skip)
  · refine Op_pure (-1) 1 h (by decide) (S_X11_strips (v := τ 1) ?_) (S_X12_strips ?_)
    all_goals (repeat' (with_reducible first | assumption | intro _ | refine And.intro ?_ ?_))
    all_goals (first | omega | contradiction | rfl | exact fX.refl | exact fM.refl | exact kb_0 (by decide) | exact kb_1 rfl | trivial | skip)
theorem O_settle {G G' : Kg} {σ τ : Kmem} {l1 : Int} (h : R σ τ) (r1 : rI l1) : Op G G' M_X11_settle M_X12_settle 5 9 [vA G 0, vI l1] [vA G' 0, vI l1] σ τ := by
  obtain ⟨w, k⟩ := R_w h
  have w1 := wf_h w
  by_cases c : 0 ≤ l1 ∧ l1 ≤ 20
  · refine ⟨_, _, S_X11_settle (Q := fun r s => isMost (τ 1) l1 r ∧ fX s (kup σ 0 0 0)) ?_, Run.mono (P_X12_settle (st := l1) ⟨w, r1⟩) (fun r t e => e.2 c), fun r s r' t x y => ?_⟩
    · all_goals (repeat' (with_reducible first | assumption | intro _ | refine And.intro ?_ ?_))
      all_goals (first | omega | contradiction | rfl | exact fX.refl | exact fM.refl | exact kb_0 (by decide) | exact kb_1 rfl | trivial | skip)
      refine Run.mono (P_X0_copy (v := τ 1) isC_31 isC_5 ⟨by decide, w, k⟩) (fun r s e => ?_)
      obtain ⟨-, e1, e2, -⟩ := e
      refine Run.mono (P_X5_mostSettled (v := τ 1) ⟨⟨w, e2⟩, c⟩) (fun r2 s2 f => ?_)
      exact ⟨f.1, fX_st ((fX_of f.2 (fun x q => by unfold scX; omega)).trans (fX_c31 e1))⟩
    · obtain ⟨y1, u, y2, y3⟩ := y
      refine ⟨?_, R_pure (w := 0) h (by decide) x.2 ?_⟩
      · obtain ⟨⟨A, a1, a2⟩, a3⟩ := x.1
        obtain ⟨⟨B, b1, b2⟩, b3⟩ := y1
        have := a3 B b1
        have := b3 A a1
        omega
      · rw [y3]
        refine fM_st ⟨fun j _ _ => by rw [y2 1 (by omega)], fun z q => y2 z (fun e => q (by unfold scM; omega)), fun j _ => by rw [y2 0 (by omega)], by rw [y2 18 (by omega)]; exact id⟩
  · refine Op_pure (-1) 1 h (by decide) (S_X11_settle ?_) (Run.mono (P_X12_settle (st := l1) ⟨w, r1⟩) (fun r t e => ?_))
    · all_goals (repeat' (with_reducible first | assumption | intro _ | refine And.intro ?_ ?_))
      all_goals (first | omega | contradiction | rfl | exact fX.refl | exact fM.refl | exact kb_0 (by decide) | exact kb_1 rfl | trivial | skip)
    · have := e.1 c
      rw [this.1, this.2]; exact ⟨rfl, fM.refl⟩
theorem fX_82 {A : Int → Prop} {s σ : Kmem} (h : kfm A s σ) (g : ∀ x, A x → scX x) (e : ∀ j, j ≠ 12 → s 82 j = σ 82 j) : fX s σ := ⟨fun x a => h x (fun q => a (g x q)), e 6 (by decide)⟩
theorem sDuel_fM {s σ : Kmem} (h1 : s 1 = sKeep (σ 1) 3084) (h2 : ∀ x, x ≠ 0 → x ≠ 1 → ¬ (14 ≤ x ∧ x ≤ 17) → s x = σ x) (h3 : ∀ j, j ≠ 34 → s 0 j = σ 0 j) : fM s σ := by
  refine ⟨fun j a b => by rw [h1]; exact keep_0 (by omega), fun x q => ?_, fun j q => h3 j (by unfold fkM at q; omega), by rw [h2 18 (by omega) (by omega) (by omega)]; exact id⟩
  unfold scM at q
  exact h2 x (by omega) (by omega) (by omega)
theorem O_duel {G G' : Kg} {σ τ : Kmem} {l1 l2 l3 : Int} (h : R σ τ) (r1 : rI l1) (r2 : rI l2) (r3 : rI l3) : Op G G' M_X11_duel M_X12_duel 22 10 [vA G 0, vI l1, vI l2, vI l3] [vA G' 0, vI l1, vI l2, vI l3] σ τ := by
  obtain ⟨w, k⟩ := R_w h
  have w1 := wf_h w
  have wk := wf_keep (to := 3084) w (by omega)
  have k2 : sKeep (τ 1) 3084 2 = τ 1 2 := keep_0 (by omega)
  by_cases c : (sKt (τ 1) l1 ∧ sKt (τ 1) l2) ∧ l1 ≠ l2 ∧ 0 ≤ l3 ∧ l3 ≤ 4
  · obtain ⟨⟨c1, c2⟩, c3, c4⟩ := c
    refine Op_pure (sDuel l3.toNat l1 l2 (sKeep (τ 1) 3084)).1 0 h (by decide) (S_X11_duel (v := τ 1) ?_) (S_X12_duel ?_)
    · all_goals (repeat' (with_reducible first | assumption | intro _ | refine And.intro ?_ ?_))
      all_goals (first | omega | contradiction | rfl | exact fX.refl | exact fM.refl | exact kb_0 (by decide) | exact kb_1 rfl | trivial | skip)
      refine Run.mono (P_X0_copy (v := τ 1) isC_31 isC_5 ⟨by decide, w, k⟩) (fun r s e => ?_)
      obtain ⟨-, e1, e2, -⟩ := e
      refine Run.mono (P_X5_seekDuel (v := sKeep (τ 1) 3084) ⟨⟨wk, kco_keep w e2 (by omega)⟩, by show (0 ≤ l1 ∧ l1 < sKeep (τ 1) 3084 2) ∧ 0 ≤ l2 ∧ l2 < sKeep (τ 1) 3084 2; rw [k2]; exact ⟨c1, c2⟩, c4⟩) (fun r2 s2 f => ?_)
      obtain ⟨-, f1, f2, f3, -⟩ := f
      exact ⟨f3, fX_st ((fX_82 f1 (fun x q => by unfold scX; omega) f2).trans (fX_c31 e1))⟩
    · all_goals (repeat' (with_reducible first | assumption | intro _ | refine And.intro ?_ ?_))
      all_goals (first | omega | contradiction | rfl | exact fX.refl | exact fM.refl | exact kb_0 (by decide) | exact kb_1 rfl | trivial | skip)
      refine Run.mono (P_X12_duelled ⟨w, ⟨c1, c2⟩, c4⟩) (fun r t e => ?_)
      obtain ⟨e1, e2, e3, e4, -⟩ := e
      exact ⟨e1, fM_st (sDuel_fM e2 e3 e4)⟩
  · refine Op_pure (-1) 1 h (by decide) (S_X11_duel (v := τ 1) ?_) (S_X12_duel ?_)
    all_goals (repeat' (with_reducible first | assumption | intro _ | refine And.intro ?_ ?_))
    all_goals (first | omega | contradiction | rfl | exact fX.refl | exact fM.refl | exact kb_0 (by decide) | exact kb_1 rfl | trivial | skip)
theorem O_duelStep {G G' : Kg} {σ τ : Kmem} {l1 l2 l3 : Int} (h : R σ τ) (r1 : rI l1) (r2 : rI l2) (r3 : rI l3) : Op G G' M_X11_duelStep M_X12_duelStep 22 10 [vA G 0, vI l1, vI l2, vI l3] [vA G' 0, vI l1, vI l2, vI l3] σ τ := by
  obtain ⟨w, k⟩ := R_w h
  have w1 := wf_h w
  have wk := wf_keep (to := 3084) w (by omega)
  have k2 : sKeep (τ 1) 3084 2 = τ 1 2 := keep_0 (by omega)
  by_cases c : (sKt (τ 1) l1 ∧ sKt (τ 1) l2) ∧ l1 ≠ l2 ∧ 1 ≤ l3 ∧ l3 ≤ 4
  · obtain ⟨⟨c1, c2⟩, c3, c4⟩ := c
    refine Op_pure (sDuel l3.toNat l1 l2 (sKeep (τ 1) 3084)).2 0 h (by decide) (S_X11_duelStep (v := τ 1) ?_) (S_X12_duelStep ?_)
    · all_goals (repeat' (with_reducible first | assumption | intro _ | refine And.intro ?_ ?_))
      all_goals (first | omega | contradiction | rfl | exact fX.refl | exact fM.refl | exact kb_0 (by decide) | exact kb_1 rfl | trivial | skip)
      refine Run.mono (P_X0_copy (v := τ 1) isC_31 isC_5 ⟨by decide, w, k⟩) (fun r s e => ?_)
      obtain ⟨-, e1, e2, -⟩ := e
      refine Run.mono (P_X5_seekDuel (v := sKeep (τ 1) 3084) ⟨⟨wk, kco_keep w e2 (by omega)⟩, by show (0 ≤ l1 ∧ l1 < sKeep (τ 1) 3084 2) ∧ 0 ≤ l2 ∧ l2 < sKeep (τ 1) 3084 2; rw [k2]; exact ⟨c1, c2⟩, by omega⟩) (fun r2 s2 f => ?_)
      obtain ⟨-, f1, f2, -, f3⟩ := f
      exact ⟨by omega, f3 c4.1, fX_st ((fX_82 f1 (fun x q => by unfold scX; omega) f2).trans (fX_c31 e1))⟩
    · all_goals (repeat' (with_reducible first | assumption | intro _ | refine And.intro ?_ ?_))
      all_goals (first | omega | contradiction | rfl | exact fX.refl | exact fM.refl | exact kb_0 (by decide) | exact kb_1 rfl | trivial | skip)
      refine Run.mono (P_X12_duelled ⟨w, ⟨c1, c2⟩, by omega⟩) (fun r t e => ?_)
      obtain ⟨-, e2, e3, e4, e5⟩ := e
      exact ⟨e5 c4.1, fM_st (sDuel_fM e2 e3 e4)⟩
  · refine Op_pure (-1) 1 h (by decide) (S_X11_duelStep (v := τ 1) ?_) (S_X12_duelStep ?_)
    all_goals (repeat' (with_reducible first | assumption | intro _ | refine And.intro ?_ ?_))
    all_goals (first | omega | contradiction | rfl | exact fX.refl | exact fM.refl | exact kb_0 (by decide) | exact kb_1 rfl | trivial | skip)
