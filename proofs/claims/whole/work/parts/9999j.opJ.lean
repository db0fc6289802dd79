/-! the pieces of the relation, each kept by itself -/
theorem kCt {s t σ τ : Kmem} (h : rCt σ 5 64 (τ 1) (τ 2)) (f : ∀ x, 5 ≤ x → x < 31 → s x = σ x) (f2 : ∀ x, 64 ≤ x → x < 70 → s x = σ x) (g : ∀ j, 0 ≤ j → j < 514 → t 1 j = τ 1 j) (g2 : ∀ j, 0 ≤ j → j < 20 → t 2 j = τ 2 j) : rCt s 5 64 (t 1) (t 2) :=
  rCt_eq (rCt_fr h f (fun x a b => f2 x a (by omega))) g g2
theorem kMks {s t σ τ : Kmem} (h : rMks σ τ) (f0 : s 0 18 = σ 0 18) (g0 : t 0 41 = τ 0 41) (f : ∀ x, 106 ≤ x → s x = σ x) (g : ∀ j, 514 ≤ j → j < 2056 → t 1 j = τ 1 j) (g2 : ∀ j, 20 ≤ j → j < 80 → t 2 j = τ 2 j) : rMks s t := by
  have h1 := h.1
  refine ⟨by rw [f0, g0]; exact h.1, fun m a b => ?_⟩
  rw [g0] at b
  have q := adC_r (m := m) ⟨a, by omega⟩
  exact rCt_eq (rCt_fr (h.2 m a b) (fun x a b => f x (by omega)) (fun x a b => f x (by omega))) (fun j c d => g _ (by omega) (by omega)) (fun j c d => g2 _ (by omega) (by omega))
theorem kSt {s t σ τ : Kmem} (h : rSt σ τ) (f : s 0 0 = σ 0 0 ∧ s 0 1 = σ 0 1 ∧ s 0 2 = σ 0 2) (g : t 0 2 = τ 0 2 ∧ t 0 3 = τ 0 3 ∧ t 0 4 = τ 0 4) : rSt s t := by
  unfold rSt; rw [f.1, f.2.1, f.2.2, g.1, g.2.1, g.2.2]; exact h
theorem kTp {s t σ τ : Kmem} (h : rTp σ τ) (f : s 0 5 = σ 0 5 ∧ s 2 = σ 2) (g : t 0 10 = τ 0 10 ∧ t 6 = τ 6 ∧ t 7 = τ 7) : rTp s t := by
  unfold rTp tpR at *; rw [f.1, f.2, g.1, g.2.1, g.2.2]; exact h
theorem kFa {s t σ τ : Kmem} (h : rFa σ τ) (f : s 3 = σ 3) (g : t 0 16 = τ 0 16 ∧ t 0 17 = τ 0 17) : rFa s t := by
  unfold rFa; rw [f, g.1, g.2]; exact h
theorem kTr {s t σ τ : Kmem} (h : rTr σ τ) (f : ∀ x, 98 ≤ x → x < 106 → s x = σ x) (g : t 3 = τ 3 ∧ t 4 = τ 4 ∧ t 5 = τ 5) : rTr s t := by
  refine ⟨by have := h.1; unfold rTm at *; rw [g.1, g.2.1, g.2.2]; exact this, fun i a b => ?_⟩
  have := adT_r (t := i) ⟨a, b⟩
  rw [f (adT i) (by omega) (by omega), f (adT i + 1) (by omega) (by omega), g.1, g.2.1, g.2.2]; exact h.2 i a b
theorem kFl {s t σ τ : Kmem} (h : rFl σ τ) (f : s 82 6 = σ 82 6 ∧ s 84 = σ 84) (g : t 0 26 = τ 0 26 ∧ t 10 = τ 10) : rFl s t := by
  unfold rFl; rw [f.1, f.2, g.1, g.2]; exact h
theorem kLv {s t σ τ : Kmem} (h : rLv σ τ) (f : s 78 = σ 78) (g : t 0 40 = τ 0 40 ∧ t 20 = τ 20) : rLv s t := by
  unfold rLv; rw [f, g.1, g.2]; exact h
/-- the trays change -/
theorem R_tr {s t σ τ : Kmem} (h : R σ τ) (f : ∀ x, ¬ (98 ≤ x ∧ x < 106) → s x = σ x) (g : ∀ x, x ≠ 3 → x ≠ 4 → x ≠ 5 → t x = τ x) (r : rTr s t) : R s t := by
  obtain ⟨h1, h2, h3, h4, h5, h6, h7, h8, h9, h10⟩ := h
  have s0 := f 0 (by omega)
  have t0 := g 0 (by omega) (by omega) (by omega)
  have t1 := g 1 (by omega) (by omega) (by omega)
  have t2 := g 2 (by omega) (by omega) (by omega)
  refine ⟨kCt h1 (fun x a b => f x (by omega)) (fun x a b => f x (by omega)) (fun j _ _ => by rw [t1]) (fun j _ _ => by rw [t2]), kMks h2 (by rw [s0]) (by rw [t0]) (fun x a => f x (by omega)) (fun j _ _ => by rw [t1]) (fun j _ _ => by rw [t2]), kSt h3 (by rw [s0]; exact ⟨rfl, rfl, rfl⟩) (by rw [t0]; exact ⟨rfl, rfl, rfl⟩), kTp h4 (by rw [s0]; exact ⟨rfl, f 2 (by omega)⟩) (by rw [t0]; exact ⟨rfl, g 6 (by omega) (by omega) (by omega), g 7 (by omega) (by omega) (by omega)⟩), kFa h5 (f 3 (by omega)) (by rw [t0]; exact ⟨rfl, rfl⟩), r, kFl h7 (by rw [f 82 (by omega)]; exact ⟨rfl, f 84 (by omega)⟩) (by rw [t0]; exact ⟨rfl, g 10 (by omega) (by omega) (by omega)⟩), kLv h8 (f 78 (by omega)) (by rw [t0]; exact ⟨rfl, g 20 (by omega) (by omega) (by omega)⟩), ?_, ?_⟩
  · unfold nmR; rw [t2]; exact h9
  · rw [g 18 (by omega) (by omega) (by omega)]; exact h10
theorem P_X11_placeStatus {G : Kg} {σ τ : Kmem} {l1 l2 : Int} (h : R σ τ) (r1 : rI l1) (r2 : rI l2) : Run G WX M_X11_placeStatus 1 0 0 [vA G 0, vI l1, vI l2] σ (fun r s => r = sWPl (τ 4) l1 l2 ∧ s = σ) := by
  have T := h.2.2.2.2.2.1
  by_cases c : 0 ≤ l1 ∧ l1 < 4
  · obtain ⟨e0, e1⟩ := T.2 l1 c.1 c.2
    have ok := T.1.1 l1 c.1 c.2
    by_cases z : τ 4 l1 = -1
    · have e : sWPl (τ 4) l1 l2 = 2 := by unfold sWPl; rw [if_neg (fun n => n c), if_pos z]
      rw [kb_0 (fun n => n z)] at e0
      rw [e]
      refine S_X11_placeStatus ?_
      rw [e0]
      all_goals (repeat' (with_reducible first | assumption | intro _ | refine And.intro ?_ ?_))
      all_goals (first | omega | contradiction | rfl | exact fX.refl | exact fM.refl | exact kb_0 (by decide) | exact kb_1 rfl | trivial | skip)
    · obtain ⟨⟨e2, e3⟩, -⟩ := e1 z
      rw [kb_1 z] at e0
      by_cases y : 0 ≤ l2 ∧ l2 < τ 4 l1
      · have e : sWPl (τ 4) l1 l2 = 0 := by unfold sWPl; rw [if_neg (fun n => n c), if_neg z, if_pos y]
        rw [e]
        refine S_X11_placeStatus ?_
        rw [e0, e3]
        all_goals (repeat' (with_reducible first | assumption | intro _ | refine And.intro ?_ ?_))
        all_goals (first | omega | contradiction | rfl | exact fX.refl | exact fM.refl | exact kb_0 (by decide) | exact kb_1 rfl | trivial | skip)
      · have e : sWPl (τ 4) l1 l2 = 3 := by unfold sWPl; rw [if_neg (fun n => n c), if_neg z, if_neg y]
        rw [e]
        refine S_X11_placeStatus ?_
        rw [e0, e3]
        all_goals (repeat' (with_reducible first | assumption | intro _ | refine And.intro ?_ ?_))
        all_goals (first | omega | contradiction | rfl | exact fX.refl | exact fM.refl | exact kb_0 (by decide) | exact kb_1 rfl | trivial | skip)
  · have e : sWPl (τ 4) l1 l2 = 1 := by unfold sWPl; rw [if_pos c]
    rw [e]
    refine S_X11_placeStatus ?_
    all_goals (repeat' (with_reducible first | assumption | intro _ | refine And.intro ?_ ?_))
    all_goals (first | omega | contradiction | rfl | exact fX.refl | exact fM.refl | exact kb_0 (by decide) | exact kb_1 rfl | trivial | skip)
theorem sWPl_0 {m : Int → Int} {t p : Int} (h : sWPl m t p = 0) : (0 ≤ t ∧ t < 4) ∧ m t ≠ -1 ∧ 0 ≤ p ∧ p < m t := by
  unfold sWPl at h
  split at h
  · omega
  split at h
  · omega
  split at h
  · omega
  · omega
theorem sWPl_r {m : Int → Int} {t p : Int} : 0 ≤ sWPl m t p ∧ sWPl m t p ≤ 3 := by
  unfold sWPl
  split
  · omega
  split
  · omega
  split <;> omega
theorem O_read {G G' : Kg} {σ τ : Kmem} {l1 l2 : Int} (h : R σ τ) (r1 : rI l1) (r2 : rI l2) : Op G G' M_X11_read M_X12_read 2 2 [vA G 0, vI l1, vI l2] [vA G' 0, vI l1, vI l2] σ τ := by
  have T := h.2.2.2.2.2.1
  have r := sWPl_r (m := τ 4) (t := l1) (p := l2)
  by_cases c : sWPl (τ 4) l1 l2 = 0
  · obtain ⟨c1, c2, c3⟩ := sWPl_0 c
    obtain ⟨e0, e1⟩ := T.2 l1 c1.1 c1.2
    have ok := T.1.1 l1 c1.1 c1.2
    have V := (e1 c2).2 l2 c3.1 c3.2
    have ar := adT_r c1
    refine Op_pure (τ 5 ((60 * l1) + l2)) 0 h (by decide) (S_X11_read (Run.mono (P_X11_placeStatus h r1 r2) (fun r s e => ?_))) (S_X12_read ⟨⟨T.1.1, r1, r2⟩, ?_, fun _ => ⟨by omega, ?_, ?_⟩, fun q => ?_⟩)
    · rw [e.1, e.2, c]
      exact ⟨by decide, fun _ => ⟨c1, by omega, by rw [kup_x (by omega)]; exact V, fX.refl⟩, fun n => absurd rfl n⟩
    · rw [kup_at]; constructor <;> omega
    · rw [kup_x (by omega)]
    · rw [c]; exact fM.refl
    · rw [kup_at] at q; omega
  · refine Op_pure (-1) (sWPl (τ 4) l1 l2) h (by constructor <;> omega) (S_X11_read (Run.mono (P_X11_placeStatus h r1 r2) (fun r s e => ?_))) (S_X12_read ⟨⟨T.1.1, r1, r2⟩, ?_, fun q => ?_, fun q => ⟨rfl, fM.refl⟩⟩)
    · rw [e.1, e.2]
      exact ⟨by constructor <;> omega, fun z => absurd z c, fun _ => ⟨rfl, fX.refl⟩⟩
    · rw [kup_at]; constructor <;> omega
    · rw [kup_at] at q; omega
theorem fr_t {σ : Kmem} {t j y : Int} {l1 : Int} (c : 0 ≤ l1 ∧ l1 < 4) (ht : t = adT l1 ∨ t = adT l1 + 1) : ∀ x, ¬ (98 ≤ x ∧ x < 106) → (kup σ t j y) x = σ x := fun x q => by
  have := adT_r c
  exact kup_o (by omega)
theorem O_write {G G' : Kg} {σ τ : Kmem} {l1 l2 l3 : Int} (h : R σ τ) (r1 : rI l1) (r2 : rI l2) (r3 : rL l3) : Op G G' M_X11_write M_X12_write 2 2 [vA G 0, vI l1, vI l2, vL l3] [vA G' 0, vI l1, vI l2, vL l3] σ τ := by
  have T := h.2.2.2.2.2.1
  have r := sWPl_r (m := τ 4) (t := l1) (p := l2)
  by_cases c : sWPl (τ 4) l1 l2 = 0
  · obtain ⟨c1, c2, c3⟩ := sWPl_0 c
    obtain ⟨e0, e1⟩ := T.2 l1 c1.1 c1.2
    have ok := T.1.1 l1 c1.1 c1.2
    have so := T.1.2.1 l1 c1.1 c1.2
    have ar := adT_r c1
    obtain ⟨⟨e2, e3⟩, e4⟩ := e1 c2
    have nr := nrw_r (v := l3) (s := τ 3 l1) r3
    have RR : R (kup σ (adT l1 + 1) l2 (nrw l3 (τ 3 l1))) (kup τ 5 ((60 * l1) + l2) (nrw l3 (τ 3 l1))) := by
      refine R_tr h (fr_t c1 (Or.inr rfl)) (fun x a b d => kup_o d) ⟨⟨?_, ?_, fun i a b => ?_⟩, fun t a b => ?_⟩
      · rw [kup_o (by omega)]; exact T.1.1
      · rw [kup_o (by omega)]; exact T.1.2.1
      · by_cases e : i = 60 * l1 + l2
        · rw [e, kup_at]; exact nr
        · rw [kup_j e]; exact T.1.2.2 i a b
      · obtain ⟨d0, d1⟩ := T.2 t a b
        have br := adT_r (t := t) ⟨a, b⟩
        have okt := T.1.1 t a b
        rw [kup_o (by omega), kup_o (a := 5) (by omega), kup_o (a := 5) (by omega)]
        refine ⟨d0, fun n => ⟨(d1 n).1, fun j p q => ?_⟩⟩
        by_cases e : t = l1
        · subst e
          by_cases ej : j = l2
          · subst ej; rw [kup_at, kup_at]
          · rw [kup_j ej, kup_j (by omega)]; exact (d1 n).2 j p q
        · rw [kup_o (by omega), kup_j (by omega)]; exact (d1 n).2 j p q
    have RR := R_st (w := 0) RR (by decide)
    refine Op_both 1 RR (S_X11_write (Run.mono (P_X11_placeStatus h r1 r2) (fun r s e => ?_))) (S_X12_write ⟨⟨T.1.1, r1, r2⟩, by constructor <;> omega, fun n => absurd c n, fun _ => ⟨c1, Run.mono (P_X12_narrowed (by constructor <;> omega)) (fun r s e => ?_)⟩⟩)
    · rw [e.1, e.2, c]
      refine ⟨by decide, fun _ => ⟨c1, Run.mono (P_X10_put (adT_is c1) ⟨by rw [e2]; constructor <;> omega, by omega, by omega⟩) (fun r s e => ?_)⟩, fun n => absurd rfl n⟩
      rw [e.2, e2]; exact ⟨rfl, rfl⟩
    · rw [e.1, e.2, c]
      exact ⟨by omega, by decide, kb_1 rfl, rfl⟩
  · refine Op_pure 0 (sWPl (τ 4) l1 l2) h (by constructor <;> omega) (S_X11_write (Run.mono (P_X11_placeStatus h r1 r2) (fun r s e => ?_))) (S_X12_write ⟨⟨T.1.1, r1, r2⟩, by constructor <;> omega, fun _ => ⟨by constructor <;> omega, kb_0 c, fM.refl⟩, fun z => absurd z c⟩)
    rw [e.1, e.2]
    exact ⟨by constructor <;> omega, fun z => absurd z c, fun _ => ⟨rfl, fX.refl⟩⟩
theorem O_tray {G G' : Kg} {σ τ : Kmem} {l1 l2 l3 : Int} (h : R σ τ) (r1 : rI l1) (r2 : rI l2) (r3 : rI l3) : Op G G' M_X11_tray M_X12_tray 1 1 [vA G 0, vI l1, vI l2, vI l3] [vA G' 0, vI l1, vI l2, vI l3] σ τ := by
  have T := h.2.2.2.2.2.1
  by_cases c : (0 ≤ l1 ∧ l1 < 4) ∧ (0 ≤ l2 ∧ l2 ≤ 3) ∧ 0 ≤ l3 ∧ l3 ≤ 60
  · obtain ⟨c1, c2, c3⟩ := c
    have ar := adT_r c1
    refine ⟨_, _, S_X11_tray (Q := fun r s => r = 1 ∧ ∃ u, s = kup u 0 0 0 ∧ kfm (fun x => x = adT l1 ∨ x = adT l1 + 1) u σ ∧ (u (adT l1) 0 = 1 ∧ u (adT l1) 1 = l2 ∧ u (adT l1) 2 = l3) ∧ ∀ j, 0 ≤ j → j < 60 → u (adT l1 + 1) j = 0) ?_, S_X12_tray (Q := fun r t => r = 1 ∧ ∃ u, t = kup u 0 2 0 ∧ (∀ x, x ≠ 3 → x ≠ 4 → x ≠ 5 → u x = τ x) ∧ u 3 = ku (τ 3) l1 l2 ∧ u 4 = ku (τ 4) l1 l3 ∧ ∀ j, u 5 j = if 60 * l1 ≤ j ∧ j < 60 * l1 + l3 then 0 else τ 5 j) ?_, fun r s r' t x y => ?_⟩
    · all_goals (repeat' (with_reducible first | assumption | intro _ | refine And.intro ?_ ?_))
      all_goals (first | omega | contradiction | rfl | exact fX.refl | exact fM.refl | exact kb_0 (by decide) | exact kb_1 rfl | trivial | skip)
      refine Run.mono (P_X10_make (adT_is c1)) (fun r s e => ⟨rfl, s, rfl, e.2⟩)
    · all_goals (repeat' (with_reducible first | assumption | intro _ | refine And.intro ?_ ?_))
      all_goals (first | omega | contradiction | rfl | exact fX.refl | exact fM.refl | exact kb_0 (by decide) | exact kb_1 rfl | trivial | skip)
      generalize hQ : (fun (r : Int) (t : Kmem) => r = 1 ∧ ∃ u, t = kup u 0 2 0 ∧ (∀ x, x ≠ 3 → x ≠ 4 → x ≠ 5 → u x = τ x) ∧ u 3 = ku (τ 3) l1 l2 ∧ u 4 = ku (τ 4) l1 l3 ∧ ∀ j, u 5 j = if 60 * l1 ≤ j ∧ j < 60 * l1 + l3 then 0 else τ 5 j) = Q
      refine kloopP (E := fun i u => E_X12_tray_49 G' l1 l3 i u Q) (fun i u => (∀ x, x ≠ 3 → x ≠ 4 → x ≠ 5 → u x = τ x) ∧ u 3 = ku (τ 3) l1 l2 ∧ u 4 = ku (τ 4) l1 l3 ∧ ∀ j, u 5 j = if 60 * l1 ≤ j ∧ j < 60 * l1 + (i : Int) then 0 else τ 5 j) l3.toNat (fun i u hi hI ih => S_X12_tray_49 (l2 := 0) ⟨by omega, by omega, fun q => ?_, fun q => ⟨by omega, ih (by omega) _ ?_⟩⟩) ⟨?_, ?_, ?_, ?_⟩
      · obtain ⟨i1, i2, i3, i4⟩ := hI
        rw [← hQ]
        rw [show (i : Int) = l3 by omega] at i4
        exact ⟨by decide, kb_1 rfl, u, rfl, i1, i2, i3, i4⟩
      · obtain ⟨i1, i2, i3, i4⟩ := hI
        refine ⟨fun x a b d => by rw [kup_o d]; exact i1 x a b d, by rw [kup_o (by omega)]; exact i2, by rw [kup_o (by omega)]; exact i3, fun j => ?_⟩
        by_cases e : j = 60 * l1 + i
        · rw [e, kup_at, if_pos (by omega)]
        · rw [kup_j e, i4 j]
          by_cases z : 60 * l1 ≤ j ∧ j < 60 * l1 + (i : Int)
          · rw [if_pos z, if_pos (by omega)]
          · rw [if_neg z, if_neg (by omega)]
      · intro x a b d; rw [kup_o b, kup_o a]
      · rw [kup_o (by omega), kup_k, kst_eq]
      · rw [kup_k, kst_eq, kup_o (by omega)]
      · intro j; rw [if_neg (by omega), kup_o (by omega), kup_o (by omega)]
    · obtain ⟨x1, u, rfl, u1, u2, u3⟩ := x
      obtain ⟨y1, v, rfl, v1, v2, v3, v4⟩ := y
      refine ⟨by rw [x1, y1], R_st (R_tr h (fun x q => u1 x (by omega)) v1 ⟨⟨fun i a b => ?_, fun i a b => ?_, fun i a b => ?_⟩, fun t a b => ?_⟩) (by decide)⟩
      · rw [v3]; by_cases e : i = l1
        · rw [e, ku_eq]; exact Or.inr c3
        · rw [ku_ne e]; exact T.1.1 i a b
      · rw [v2]; by_cases e : i = l1
        · rw [e, ku_eq]; exact c2
        · rw [ku_ne e]; exact T.1.2.1 i a b
      · rw [v4 i]; split
        · decide
        · exact T.1.2.2 i a b
      · have br := adT_r (t := t) ⟨a, b⟩
        obtain ⟨d0, d1⟩ := T.2 t a b
        have okt := T.1.1 t a b
        rw [v2, v3]
        by_cases e : t = l1
        · subst e
          rw [ku_eq, ku_eq]
          refine ⟨by rw [u2.1, kb_1 (by omega)], fun n => ⟨⟨u2.2.1, u2.2.2⟩, fun j p q => by rw [u3 j p (by omega), v4, if_pos (by omega)]⟩⟩
        · rw [ku_ne e, ku_ne e, u1 (adT t) (by omega), u1 (adT t + 1) (by omega)]
          refine ⟨d0, fun n => ⟨(d1 n).1, fun j p q => ?_⟩⟩
          rw [v4, if_neg (by omega)]; exact (d1 n).2 j p q
  · refine Op_pure 0 1 h (by decide) (S_X11_tray ?_) (S_X12_tray ?_)
    all_goals (repeat' (with_reducible first | assumption | intro _ | refine And.intro ?_ ?_))
    all_goals (first | omega | contradiction | rfl | exact fX.refl | exact fM.refl | exact kb_0 (by decide) | exact kb_1 rfl | trivial | skip)
/-! the tape -/
theorem R_tw {σ τ : Kmem} {b : Int} (h : R σ τ) (hb : -128 ≤ b ∧ b ≤ 127) (h9 : τ 0 10 < 900) : R (tw 2 5 σ b) (tw 6 10 τ b) ∧ tw 6 10 τ b 0 10 = τ 0 10 + 1 ∧ tw 2 5 σ b 0 5 = σ 0 5 + 1 := by
  refine ⟨?_, tw_at, tw_at⟩
  obtain ⟨h1, h2, h3, h4, h5, h6, h7, h8, h9', h10⟩ := h
  have f : ∀ x, x ≠ 0 → x ≠ 2 → (tw 2 5 σ b) x = σ x := fun x p q => by unfold tw; rw [kup_o p, kup_o q]
  have g : ∀ x, x ≠ 0 → x ≠ 6 → (tw 6 10 τ b) x = τ x := fun x p q => by unfold tw; rw [kup_o p, kup_o q]
  have f0 : ∀ j, j ≠ 5 → (tw 2 5 σ b) 0 j = σ 0 j := fun j p => by unfold tw; rw [kup_j p, kup_x (by omega)]
  have g0 : ∀ j, j ≠ 10 → (tw 6 10 τ b) 0 j = τ 0 j := fun j p => by unfold tw; rw [kup_j p, kup_x (by omega)]
  have f2 : ∀ j, (tw 2 5 σ b) 2 j = if j = σ 0 5 then b else σ 2 j := fun j => by
    unfold tw; rw [kup_o (by omega)]
    by_cases e : j = σ 0 5
    · rw [e, kup_at, if_pos rfl]
    · rw [kup_j e, if_neg e]
  have g6 : ∀ j, (tw 6 10 τ b) 6 j = if j = τ 0 10 then b else τ 6 j := fun j => by
    unfold tw; rw [kup_o (by omega)]
    by_cases e : j = τ 0 10
    · rw [e, kup_at, if_pos rfl]
    · rw [kup_j e, if_neg e]
  have t1 := g 1 (by omega) (by omega)
  have t2 := g 2 (by omega) (by omega)
  refine ⟨kCt h1 (fun x a b => f x (by omega) (by omega)) (fun x a b => f x (by omega) (by omega)) (fun j _ _ => by rw [t1]) (fun j _ _ => by rw [t2]), kMks h2 (f0 18 (by omega)) (g0 41 (by omega)) (fun x a => f x (by omega) (by omega)) (fun j _ _ => by rw [t1]) (fun j _ _ => by rw [t2]), kSt h3 ⟨f0 0 (by omega), f0 1 (by omega), f0 2 (by omega)⟩ ⟨g0 2 (by omega), g0 3 (by omega), g0 4 (by omega)⟩, ⟨?_, ⟨?_, fun i p q => ?_, fun i p q => ?_⟩, fun i p q => ?_⟩, kFa h5 (f 3 (by omega) (by omega)) ⟨g0 16 (by omega), g0 17 (by omega)⟩, kTr h6 (fun x a b => f x (by omega) (by omega)) ⟨g 3 (by omega) (by omega), g 4 (by omega) (by omega), g 5 (by omega) (by omega)⟩, kFl h7 ⟨by rw [f 82 (by omega) (by omega)], f 84 (by omega) (by omega)⟩ ⟨g0 26 (by omega), g 10 (by omega) (by omega)⟩, kLv h8 (f 78 (by omega) (by omega)) ⟨g0 40 (by omega), g 20 (by omega) (by omega)⟩, ?_, ?_⟩
  · rw [tw_at, tw_at, h4.1]
  · rw [tw_at]; have := h4.2.1.1; omega
  · rw [g6]; split
    · exact hb
    · exact h4.2.1.2.1 i p q
  · rw [g 7 (by omega) (by omega)]; exact h4.2.1.2.2 i p q
  · rw [tw_at] at q
    rw [f2, g6, h4.1]
    split
    · rfl
    · exact h4.2.2 i p (by omega)
  · unfold nmR; rw [t2]; exact h9'
  · rw [g 18 (by omega) (by omega)]; exact h10
theorem R_tw4 {σ τ : Kmem} {l : Int} (h : R σ τ) (h9 : τ 0 10 ≤ 896) : R (tw4 2 5 σ l) (tw4 6 10 τ l) ∧ tw4 6 10 τ l 0 10 = τ 0 10 + 4 ∧ tw4 2 5 σ l 0 5 = σ 0 5 + 4 := by
  have a := R_tw (b := ki2b (ki2b (kshr l 24))) h (ki2b_b _) (by omega)
  have b := R_tw (b := ki2b (ki2b (kshr l 16))) a.1 (ki2b_b _) (by omega)
  have c := R_tw (b := ki2b (ki2b (kshr l 8))) b.1 (ki2b_b _) (by omega)
  have d := R_tw (b := ki2b (ki2b (kshr l 0))) c.1 (ki2b_b _) (by omega)
  refine ⟨d.1, ?_, ?_⟩
  · unfold tw4; omega
  · unfold tw4; omega
theorem O_feed {G G' : Kg} {σ τ : Kmem} {l1 l2 l3 l4 l5 : Int} (h : R σ τ) (r1 : rI l1) (r2 : rI l2) (r3 : rI l3) (r4 : rI l4) (r5 : rI l5) : Op G G' M_X11_feed M_X12_feed 1 1 [vA G 0, vI l1, vI l2, vI l3, vI l4, vI l5] [vA G' 0, vI l1, vI l2, vI l3, vI l4, vI l5] σ τ := by
  have t := h.2.2.2.1
  have tr := t.2.1.1
  by_cases c : τ 0 10 ≤ 880
  · have a := R_tw4 (l := l1) h (by omega)
    have b := R_tw4 (l := l2) a.1 (by omega)
    have d := R_tw4 (l := l3) b.1 (by omega)
    have e := R_tw4 (l := l4) d.1 (by omega)
    have f := R_tw4 (l := l5) e.1 (by omega)
    obtain ⟨-, a1, a2⟩ := a
    obtain ⟨-, b1, b2⟩ := b
    obtain ⟨-, d1, d2⟩ := d
    obtain ⟨-, e1, e2⟩ := e
    obtain ⟨fR, f1, f2⟩ := f
    have t1 := t.1
    refine Op_both (tw4 6 10 (tw4 6 10 (tw4 6 10 (tw4 6 10 (tw4 6 10 τ l1) l2) l3) l4) l5 0 10) fR (S_X11_feed ⟨by constructor <;> omega, fun _ => ?_, fun q => by omega⟩) (S_X12_feed ⟨by constructor <;> omega, fun _ => ?_, fun q => by omega⟩)
    · refine Run.mono (P_X11_putOnTape (by omega)) (fun r s z => ?_)
      rw [z.2]
      refine Run.mono (P_X11_putOnTape (by omega)) (fun r s z => ?_)
      rw [z.2]
      refine Run.mono (P_X11_putOnTape (by omega)) (fun r s z => ?_)
      rw [z.2]
      refine Run.mono (P_X11_putOnTape (by omega)) (fun r s z => ?_)
      rw [z.2]
      refine Run.mono (P_X11_putOnTape (by omega)) (fun r s z => ?_)
      rw [z.2]
      exact ⟨by omega, rfl⟩
    · refine Run.mono (P_X12_four (by omega)) (fun r s z => ?_)
      rw [z.2]
      refine Run.mono (P_X12_four (by omega)) (fun r s z => ?_)
      rw [z.2]
      refine Run.mono (P_X12_four (by omega)) (fun r s z => ?_)
      rw [z.2]
      refine Run.mono (P_X12_four (by omega)) (fun r s z => ?_)
      rw [z.2]
      refine Run.mono (P_X12_four (by omega)) (fun r s z => ?_)
      rw [z.2]
      exact ⟨rfl, rfl⟩
  · have t1 := t.1
    refine Op_same (-1) h (S_X11_feed ⟨by constructor <;> omega, fun q => by omega, fun _ => ⟨rfl, rfl⟩⟩) (S_X12_feed ⟨by constructor <;> omega, fun q => by omega, fun _ => ⟨rfl, rfl⟩⟩)
