/-! the county changes -/
theorem R_cty {s σ τ : Kmem} {u : Int → Int} (h : R σ τ) (fx : ∀ x, ¬ scX x → ¬ (5 ≤ x ∧ x < 31) → s x = σ x) (f82 : s 82 6 = σ 82 6) (nm : ∀ k, 0 ≤ k → k < 14 → s (11 + k) 0 = σ (11 + k) 0) (w : wf u) (h7 : u 7 ≤ 9999) (k : kco s 5 u) (e : ∀ j, 150 ≤ j → j < 2056 → u j = τ 1 j) (e' : u 8 = τ 1 8 ∧ u 2 = τ 1 2 ∧ u 3 = τ 1 3) : R s (kst τ 1 u) := by
  obtain ⟨h1, h2, h3, h4, h5, h6, h7', h8, h9, h10⟩ := h
  have w1 := wf_h h1.1.1
  have e0 : ∀ x, x ≠ 1 → (kst τ 1 u) x = τ x := fun x a => kst_ne a
  have e1 : (kst τ 1 u) 1 = u := kst_eq
  have pe : pEq u (τ 1) := ⟨e', fun j a b => e j a (by omega)⟩
  have fx' : ∀ x, ¬ scX x → (x < 5 ∨ 31 ≤ x) → s x = σ x := fun x a b => fx x a (by omega)
  refine ⟨?_, ⟨?_, fun m a b => ?_⟩, ?_, ?_, ?_, ⟨?_, fun i a b => ?_⟩, ⟨?_, fun i a b => ?_⟩, ?_, ?_, ?_⟩
  · rw [e1, e0 2 (by omega)]
    obtain ⟨⟨-, p, -⟩, -, pr, n1, n2⟩ := h1
    refine ⟨⟨w, pwf_eq pe p, h7⟩, k, kpr_eq (kpr_kfm (A := fun x => ¬ (64 ≤ x ∧ x < 70)) pr (fun x q => fx' x (by unfold scX; omega) (by omega)) (fun x a b q => q ⟨a, b⟩)) pe p.1.2, ?_, ?_⟩
    · rw [e'.2.1]
      intro i a b
      have := nm i a (by omega)
      rw [show (5 + 6 + i : Int) = 11 + i by omega, this, ← show (5 + 6 + i : Int) = 11 + i by omega]
      exact n1 i a b
    · rw [e'.2.2]
      intro i a b
      have := nm (6 + i) (by omega) (by omega)
      rw [show (5 + 12 + i : Int) = 11 + (6 + i) by omega, this, ← show (5 + 12 + i : Int) = 11 + (6 + i) by omega]
      exact n2 i a b
  · rw [e0 0 (by omega), fx' 0 (by unfold scX; omega) (by omega)]; exact h2.1
  · rw [e0 0 (by omega)] at b
    have := h2.1
    have q := adC_r (m := m) ⟨a, by omega⟩
    have z := rCt_fr (s := s) (h2.2 m a b) (fun x a b => fx' x (by unfold scX; omega) (by omega)) (fun x a b => fx' x (by unfold scX; omega) (by omega))
    refine rCt_eq z (fun j c d => ?_) (fun j c d => ?_)
    · unfold rMk; rw [e1]; exact e _ (by omega) (by omega)
    · unfold rMn; rw [e0 2 (by omega)]
  · unfold rSt; rw [e0 0 (by omega), fx' 0 (by unfold scX; omega) (by omega)]; exact h3
  · unfold rTp tpR at *; rw [e0 0 (by omega), e0 6 (by omega), e0 7 (by omega), fx' 0 (by unfold scX; omega) (by omega), fx' 2 (by unfold scX; omega) (by omega)]; exact h4
  · unfold rFa; rw [e0 0 (by omega), fx' 3 (by unfold scX; omega) (by omega)]; exact h5
  · have := h6.1; unfold rTm at *; rw [e0 3 (by omega), e0 4 (by omega), e0 5 (by omega)]; exact this
  · have := adT_r (t := i) ⟨a, b⟩
    rw [fx' (adT i) (by unfold scX; omega) (by omega), fx' (adT i + 1) (by unfold scX; omega) (by omega), e0 3 (by omega), e0 4 (by omega), e0 5 (by omega)]; exact h6.2 i a b
  · rw [e0 0 (by omega), f82]; exact h7'.1
  · rw [e0 0 (by omega)] at b; rw [fx' 84 (by unfold scX; omega) (by omega), e0 10 (by omega)]; exact h7'.2 i a b
  · unfold rLv; rw [e0 0 (by omega), e0 20 (by omega), fx' 78 (by unfold scX; omega) (by omega)]; exact h8
  · intro j a b; rw [e0 2 (by omega)]; exact h9 j a b
  · rw [e0 18 (by omega)]; exact h10
theorem R_ku {σ τ : Kmem} {x j y i z : Int} (h : R σ τ) (hx : 5 ≤ x ∧ x < 31) (hj : j ≠ 0 ∨ x < 11 ∨ 25 ≤ x) (hi : 0 ≤ i ∧ i < 150 ∧ i ≠ 8 ∧ i ≠ 2 ∧ i ≠ 3) (w : wf (ku (τ 1) i z)) (h7 : (ku (τ 1) i z) 7 ≤ 9999) (k : kco (kup σ x j y) 5 (ku (τ 1) i z)) : R (kup σ x j y) (kup τ 1 i z) := by
  rw [kup_k (σ := τ)]
  refine R_cty h (fun x' a b => kup_o (fun e => b (by omega))) (by rw [kup_o (by omega)]) (fun n a b => ?_) w h7 k (fun j a b => ku_ne (by omega)) ⟨ku_ne (by omega), ku_ne (by omega), ku_ne (by omega)⟩
  by_cases e : 11 + n = x
  · rw [e]; exact kup_j (by omega)
  · exact kup_x e
/-- a call that changes both sides in a way that is known -/
theorem Op_both {G G' : Kg} {M M' : Km} {d d' : Nat} {as as' : List Value} {σ τ s t : Kmem} (a : Int) (h : R s t) (hx : Run G WX M d 0 0 as σ (fun r s' => r = a ∧ s' = s)) (hm : Run G' WM M' d' 0 0 as' τ (fun r t' => r = a ∧ t' = t)) : Op G G' M M' d d' as as' σ τ :=
  ⟨_, _, hx, hm, fun _ _ _ _ x y => ⟨x.1.trans y.1.symm, by rw [x.2, y.2]; exact h⟩⟩
theorem O_cut {G G' : Kg} {σ τ : Kmem} {l1 l2 : Int} (h : R σ τ) (r1 : rI l1) (r2 : l2 = 0 ∨ l2 = 1) : Op G G' M_X11_cut M_X12_cut 1 4 [vA G 0, vI l1, vI l2] [vA G' 0, vI l1, vI l2] σ τ := by
  obtain ⟨w, k⟩ := R_w h
  have w1 := wf_h w
  have h7 := h.1.1.2.2
  by_cases c : sKt (τ 1) l1
  · have wk := w.2.2.1 l1 c.1 c.2
    have K9 := (k.2.2.1 l1 c.1 c.2).2.2.2.2
    by_cases e : τ 1 (34 + 9 * l1 + 8) = l2
    · refine Op_pure 0 7 h (by decide) (S_X11_cut (v := τ 1) ?_) (S_X12_cut ?_)
      · rw [K9]
        all_goals (repeat' (with_reducible first | assumption | intro _ | refine And.intro ?_ ?_))
        all_goals (first | omega | contradiction | rfl | exact fX.refl | exact fM.refl | exact kb_0 (by decide) | exact kb_1 rfl | trivial | skip)
      · all_goals (repeat' (with_reducible first | assumption | intro _ | refine And.intro ?_ ?_))
        all_goals (first | omega | contradiction | rfl | exact fX.refl | exact fM.refl | exact kb_0 (by decide) | exact kb_1 rfl | trivial | skip)
        rw [show ku (τ 1) (34 + 9 * l1 + 8) l2 = τ 1 from by rw [← e]; exact ku_self, kst_id]
        exact fM.refl
    · have c1 := c.1
      have c2 := c.2
      have kk := kco_cut (x := l2) w k c
      have RR := R_st (w := 0) (R_ku h (by omega) (Or.inl (by decide)) (by omega) (wf_cut w c r2) (by rw [ku_ne (by omega)]; exact h7) kk) (by decide)
      rw [kup_k (σ := τ)] at RR
      refine Op_both 1 RR (S_X11_cut (v := τ 1) ?_) (S_X12_cut ?_)
      · rw [K9]
        all_goals (repeat' (with_reducible first | assumption | intro _ | refine And.intro ?_ ?_))
        all_goals (first | omega | contradiction | rfl | exact fX.refl | exact fM.refl | exact kb_0 (by decide) | exact kb_1 rfl | trivial | skip)
      · all_goals (repeat' (with_reducible first | assumption | intro _ | refine And.intro ?_ ?_))
        all_goals (first | omega | contradiction | rfl | exact fX.refl | exact fM.refl | exact kb_0 (by decide) | exact kb_1 rfl | trivial | skip)
  · refine Op_pure 0 1 h (by decide) (S_X11_cut (v := τ 1) ?_) (S_X12_cut ?_)
    all_goals (repeat' (with_reducible first | assumption | intro _ | refine And.intro ?_ ?_))
    all_goals (first | omega | contradiction | rfl | exact fX.refl | exact fM.refl | exact kb_0 (by decide) | exact kb_1 rfl | trivial | skip)
theorem O_sell {G G' : Kg} {σ τ : Kmem} {l1 l2 : Int} (h : R σ τ) (r1 : rI l1) (r2 : rI l2) : Op G G' M_X11_sell M_X12_sell 1 2 [vA G 0, vI l1, vI l2] [vA G' 0, vI l1, vI l2] σ τ := by
  obtain ⟨w, k⟩ := R_w h
  have w1 := wf_h w
  have h7 := h.1.1.2.2
  by_cases c : sKt (τ 1) l1 ∧ -9 ≤ l2 ∧ l2 ≤ 9
  · obtain ⟨c, d1, d2⟩ := c
    have c1 := c.1
    have c2 := c.2
    have wk := w.2.2.1 l1 c.1 c.2
    have K4 := (k.2.2.1 l1 c.1 c.2).2.1.1
    by_cases e : 0 ≤ τ 1 (34 + 9 * l1 + 3) + l2 ∧ τ 1 (34 + 9 * l1 + 3) + l2 ≤ 9
    · have kk := kco_string (x := τ 1 (34 + 9 * l1 + 3) + l2) w k c
      have RR := R_st (w := 0) (R_ku h (by omega) (Or.inl (by decide)) (by omega) (wf_string w c e) (by rw [ku_ne (by omega)]; exact h7) kk) (by decide)
      refine Op_both (τ 1 (34 + 9 * l1 + 3) + l2) RR (S_X11_sell (v := τ 1) ?_) (S_X12_sell ?_)
      · rw [K4]
        all_goals (repeat' (with_reducible first | assumption | intro _ | refine And.intro ?_ ?_))
        all_goals (first | omega | contradiction | rfl | exact fX.refl | exact fM.refl | exact kb_0 (by decide) | exact kb_1 rfl | trivial | skip)
      · rw [kup_at]
        all_goals (repeat' (with_reducible first | assumption | intro _ | refine And.intro ?_ ?_))
        all_goals (first | omega | contradiction | rfl | exact fX.refl | exact fM.refl | exact kb_0 (by decide) | exact kb_1 rfl | trivial | skip)
    · refine Op_pure (-1) 7 h (by decide) (S_X11_sell (v := τ 1) ?_) (S_X12_sell ?_)
      · rw [K4]
        all_goals (repeat' (with_reducible first | assumption | intro _ | refine And.intro ?_ ?_))
        all_goals (first | omega | contradiction | rfl | exact fX.refl | exact fM.refl | exact kb_0 (by decide) | exact kb_1 rfl | trivial | skip)
      · all_goals (repeat' (with_reducible first | assumption | intro _ | refine And.intro ?_ ?_))
        all_goals (first | omega | contradiction | rfl | exact fX.refl | exact fM.refl | exact kb_0 (by decide) | exact kb_1 rfl | trivial | skip)
  · refine Op_pure (-1) 1 h (by decide) (S_X11_sell (v := τ 1) ?_) (S_X12_sell ?_)
    · by_cases z : sKt (τ 1) l1
      · have wk := w.2.2.1 l1 z.1 z.2
        have K4 := (k.2.2.1 l1 z.1 z.2).2.1.1
        rw [K4]
        all_goals (repeat' (with_reducible first | assumption | intro _ | refine And.intro ?_ ?_))
        all_goals (first | omega | contradiction | rfl | exact fX.refl | exact fM.refl | exact kb_0 (by decide) | exact kb_1 rfl | trivial | skip)
      · all_goals (repeat' (with_reducible first | assumption | intro _ | refine And.intro ?_ ?_))
        all_goals (first | omega | contradiction | rfl | exact fX.refl | exact fM.refl | exact kb_0 (by decide) | exact kb_1 rfl | trivial | skip)
    · all_goals (repeat' (with_reducible first | assumption | intro _ | refine And.intro ?_ ?_))
      all_goals (first | omega | contradiction | rfl | exact fX.refl | exact fM.refl | exact kb_0 (by decide) | exact kb_1 rfl | trivial | skip)
theorem kup_kk {τ : Kmem} {x a b y z : Int} : kup (kup τ x a y) x b z = kst τ x (ku (ku (τ x) a y) b z) := by
  rw [kup_k (σ := kup τ x a y), kup_k (σ := τ), kst_eq, kst_kst]
theorem O_blow {G G' : Kg} {σ τ : Kmem} {l1 l2 l3 : Int} (h : R σ τ) (r1 : rI l1) (r2 : rI l2) (r3 : rI l3) : Op G G' M_X11_blow M_X12_blow 1 1 [vA G 0, vI l1, vI l2, vI l3] [vA G' 0, vI l1, vI l2, vI l3] σ τ := by
  obtain ⟨w, k⟩ := R_w h
  have w1 := wf_h w
  have h7 := h.1.1.2.2
  by_cases c : sHr l1 ∧ (0 ≤ l2 ∧ l2 ≤ 7) ∧ 0 ≤ l3 ∧ l3 ≤ 3
  · obtain ⟨c1, c2, c3⟩ := c
    have k1 := kco_dir (x := l2) w k c1
    have k2 := kco_force (x := l3) (v := ku (τ 1) (10 + 2 * l1) l2) (by rw [ku_ne (by omega), ku_ne (by omega), ku_ne (by omega)]; omega) k1 c1
    have ww := wf_wind2 w c1 c2 c3
    have RR : R (kup (kup σ (5 + 1) l1 l2) (5 + 2) l1 l3) (kst τ 1 (ku (ku (τ 1) (10 + 2 * l1) l2) (10 + 2 * l1 + 1) l3)) := by
      refine R_cty h (fun x' a b => ?_) ?_ (fun n a b => ?_) ww ?_ k2 (fun j a b => ?_) ⟨?_, ?_, ?_⟩
      · rw [kup_o (by omega), kup_o (by omega)]
      · rw [kup_o (by omega), kup_o (by omega)]
      · rw [kup_o (by omega), kup_o (by omega)]
      · rw [ku_ne (by omega), ku_ne (by omega)]; exact h7
      · rw [ku_ne (by omega), ku_ne (by omega)]
      · rw [ku_ne (by omega), ku_ne (by omega)]
      · rw [ku_ne (by omega), ku_ne (by omega)]
      · rw [ku_ne (by omega), ku_ne (by omega)]
    have RR := R_st (w := 0) RR (by decide)
    refine Op_both 1 RR (S_X11_blow ?_) (S_X12_blow ?_)
    · all_goals (repeat' (with_reducible first | assumption | intro _ | refine And.intro ?_ ?_))
      all_goals (first | omega | contradiction | rfl | exact fX.refl | exact fM.refl | exact kb_0 (by decide) | exact kb_1 rfl | trivial | skip)
    · rw [kup_kk]
      all_goals (repeat' (with_reducible first | assumption | intro _ | refine And.intro ?_ ?_))
      all_goals (first | omega | contradiction | rfl | exact fX.refl | exact fM.refl | exact kb_0 (by decide) | exact kb_1 rfl | trivial | skip)
  · refine Op_pure 0 1 h (by decide) (S_X11_blow ?_) (S_X12_blow ?_)
    all_goals (repeat' (with_reducible first | assumption | intro _ | refine And.intro ?_ ?_))
    all_goals (first | omega | contradiction | rfl | exact fX.refl | exact fM.refl | exact kb_0 (by decide) | exact kb_1 rfl | trivial | skip)
theorem O_rule {G G' : Kg} {σ τ : Kmem} {l1 : Int} (h : R σ τ) (r1 : rI l1) : Op G G' M_X11_rule M_X12_rule 1 1 [vA G 0, vI l1] [vA G' 0, vI l1] σ τ := by
  obtain ⟨w, k⟩ := R_w h
  have w1 := wf_h w
  have h7 := h.1.1.2.2
  by_cases c : 0 ≤ l1 ∧ l1 ≤ 2
  · have RR := R_st (w := 0) (R_ku h (by omega) (Or.inl (by decide)) (by omega) (wf_law w c) (by rw [ku_ne (by omega)]; exact h7) (kco_law (x := l1) w k)) (by decide)
    refine Op_both 1 RR (S_X11_rule ?_) (S_X12_rule ?_)
    all_goals (repeat' (with_reducible first | assumption | intro _ | refine And.intro ?_ ?_))
    all_goals (first | omega | contradiction | rfl | exact fX.refl | exact fM.refl | exact kb_0 (by decide) | exact kb_1 rfl | trivial | skip)
  · refine Op_pure 0 1 h (by decide) (S_X11_rule ?_) (S_X12_rule ?_)
    all_goals (repeat' (with_reducible first | assumption | intro _ | refine And.intro ?_ ?_))
    all_goals (first | omega | contradiction | rfl | exact fX.refl | exact fM.refl | exact kb_0 (by decide) | exact kb_1 rfl | trivial | skip)
theorem O_lease {G G' : Kg} {σ τ : Kmem} {l1 l2 : Int} (h : R σ τ) (r1 : rI l1) (r2 : rI l2) : Op G G' M_X11_lease M_X12_lease 1 1 [vA G 0, vI l1, vI l2] [vA G' 0, vI l1, vI l2] σ τ := by
  obtain ⟨w, k⟩ := R_w h
  have w1 := wf_h w
  have h7 := h.1.1.2.2
  by_cases c : (0 ≤ l1 ∧ l1 < τ 1 4) ∧ sKt (τ 1) l2
  · obtain ⟨c1, c2⟩ := c
    have K3 := (k.2.2.2.2 l1 c1.1 c1.2).2.1
    have wt := w.2.2.2.2 l1 c1.1 c1.2
    by_cases e : τ 1 (120 + 5 * l1 + 2) = l2
    · refine Op_pure 0 7 h (by decide) (S_X11_lease (v := τ 1) ?_) (S_X12_lease ?_)
      · rw [K3]
        all_goals (repeat' (with_reducible first | assumption | intro _ | refine And.intro ?_ ?_))
        all_goals (first | omega | contradiction | rfl | exact fX.refl | exact fM.refl | exact kb_0 (by decide) | exact kb_1 rfl | trivial | skip)
      · all_goals (repeat' (with_reducible first | assumption | intro _ | refine And.intro ?_ ?_))
        all_goals (first | omega | contradiction | rfl | exact fX.refl | exact fM.refl | exact kb_0 (by decide) | exact kb_1 rfl | trivial | skip)
    · have RR := R_st (w := 0) (R_ku h (by omega) (Or.inl (by decide)) (by omega) (wf_its w c1 c2) (by rw [ku_ne (by omega)]; exact h7) (kco_lease (x := l2) w k c1)) (by decide)
      refine Op_both 1 RR (S_X11_lease (v := τ 1) ?_) (S_X12_lease ?_)
      · rw [K3]
        all_goals (repeat' (with_reducible first | assumption | intro _ | refine And.intro ?_ ?_))
        all_goals (first | omega | contradiction | rfl | exact fX.refl | exact fM.refl | exact kb_0 (by decide) | exact kb_1 rfl | trivial | skip)
      · all_goals (repeat' (with_reducible first | assumption | intro _ | refine And.intro ?_ ?_))
        all_goals (first | omega | contradiction | rfl | exact fX.refl | exact fM.refl | exact kb_0 (by decide) | exact kb_1 rfl | trivial | skip)
  · refine Op_pure 0 1 h (by decide) (S_X11_lease (v := τ 1) ?_) (S_X12_lease ?_)
    · by_cases z : 0 ≤ l1 ∧ l1 < τ 1 4
      · have K3 := (k.2.2.2.2 l1 z.1 z.2).2.1
        have wt := w.2.2.2.2 l1 z.1 z.2
        rw [K3]
        all_goals (repeat' (with_reducible first | assumption | intro _ | refine And.intro ?_ ?_))
        all_goals (first | omega | contradiction | rfl | exact fX.refl | exact fM.refl | exact kb_0 (by decide) | exact kb_1 rfl | trivial | skip)
      · all_goals (repeat' (with_reducible first | assumption | intro _ | refine And.intro ?_ ?_))
        all_goals (first | omega | contradiction | rfl | exact fX.refl | exact fM.refl | exact kb_0 (by decide) | exact kb_1 rfl | trivial | skip)
    · all_goals (repeat' (with_reducible first | assumption | intro _ | refine And.intro ?_ ?_))
      all_goals (first | omega | contradiction | rfl | exact fX.refl | exact fM.refl | exact kb_0 (by decide) | exact kb_1 rfl | trivial | skip)
