theorem O_pour {G G' : Kg} {σ τ : Kmem} {l1 l2 l3 l4 l5 : Int} (h : R σ τ) (r1 : rI l1) (r2 : rI l2) (r3 : rI l3) (r4 : rI l4) (r5 : rI l5) : Op G G' M_X11_pour M_X12_pour 1 1 [vA G 0, vI l1, vI l2, vI l3, vI l4, vI l5] [vA G' 0, vI l1, vI l2, vI l3, vI l4, vI l5] σ τ := by
  have T := h.2.2.2.2.2.1
  by_cases c : ((0 ≤ l1 ∧ l1 < 4) ∧ 0 ≤ l3 ∧ l3 < 4) ∧ 0 ≤ l2 ∧ 0 ≤ l4 ∧ 0 ≤ l5
  · obtain ⟨⟨c1, c3⟩, c2, c4, c5⟩ := c
    have ar1 := adT_r c1
    have ar3 := adT_r c3
    obtain ⟨a0, a1⟩ := T.2 l1 c1.1 c1.2
    obtain ⟨b0, b1⟩ := T.2 l3 c3.1 c3.2
    have ok1 := T.1.1 l1 c1.1 c1.2
    have ok3 := T.1.1 l3 c3.1 c3.2
    have so1 := T.1.2.1 l1 c1.1 c1.2
    have so3 := T.1.2.1 l3 c3.1 c3.2
    by_cases m1 : τ 4 l1 = -1
    · rw [kb_0 (fun n => n m1)] at a0
      refine Op_pure 0 2 h (by decide) (S_X11_pour ?_) (S_X12_pour ?_)
      · rw [a0]
        all_goals (repeat' (with_reducible first | assumption | intro _ | refine And.intro ?_ ?_))
        all_goals (first | omega | contradiction | rfl | exact fX.refl | exact fM.refl | exact kb_0 (by decide) | exact kb_1 rfl | trivial | skip)
      · all_goals (repeat' (with_reducible first | assumption | intro _ | refine And.intro ?_ ?_))
        all_goals (first | omega | contradiction | rfl | exact fX.refl | exact fM.refl | exact kb_0 (by decide) | exact kb_1 rfl | trivial | skip)
    rw [kb_1 m1] at a0
    obtain ⟨⟨a2, a3⟩, a4⟩ := a1 m1
    by_cases m3 : τ 4 l3 = -1
    · rw [kb_0 (fun n => n m3)] at b0
      refine Op_pure 0 2 h (by decide) (S_X11_pour ?_) (S_X12_pour ?_)
      · rw [a0, b0, a3, a2]
        all_goals (repeat' (with_reducible first | assumption | intro _ | refine And.intro ?_ ?_))
        all_goals (first | omega | contradiction | rfl | exact fX.refl | exact fM.refl | exact kb_0 (by decide) | exact kb_1 rfl | trivial | skip)
      · all_goals (repeat' (with_reducible first | assumption | intro _ | refine And.intro ?_ ?_))
        all_goals (first | omega | contradiction | rfl | exact fX.refl | exact fM.refl | exact kb_0 (by decide) | exact kb_1 rfl | trivial | skip)
    rw [kb_1 m3] at b0
    obtain ⟨⟨b2, b3⟩, b4⟩ := b1 m3
    by_cases sr : τ 3 l1 = τ 3 l3
    · by_cases ln : l5 ≤ τ 4 l1 - l2 ∧ l5 ≤ τ 4 l3 - l4
      · obtain ⟨ln1, ln2⟩ := ln
        refine ⟨_, _, S_X11_pour (Q := fun r s => r = 1 ∧ s = kup (kcpy σ (adT l1 + 1) l2 (adT l3 + 1) l4 l5) 0 0 0) ?_, S_X12_pour (Q := fun r t => r = 1 ∧ ∃ u, t = kup u 0 2 0 ∧ (∀ x, x ≠ 5 → u x = τ x) ∧ ∀ j, u 5 j = if 60 * l3 + l4 ≤ j ∧ j < 60 * l3 + l4 + l5 then τ 5 (60 * l1 + l2 + (j - (60 * l3 + l4))) else τ 5 j) ?_, fun r s r' t x y => ?_⟩
        · rw [a0, b0, a3, a2, b2, b3]
          all_goals (repeat' (with_reducible first | assumption | intro _ | refine And.intro ?_ ?_))
          all_goals (first | omega | contradiction | rfl | exact fX.refl | exact fM.refl | exact kb_0 (by decide) | exact kb_1 rfl | trivial | skip)
        · all_goals (repeat' (with_reducible first | assumption | intro _ | refine And.intro ?_ ?_))
          all_goals (first | omega | contradiction | rfl | exact fX.refl | exact fM.refl | exact kb_0 (by decide) | exact kb_1 rfl | trivial | skip)
          generalize hQ : (fun (r : Int) (t : Kmem) => r = 1 ∧ ∃ u, t = kup u 0 2 0 ∧ (∀ x, x ≠ 5 → u x = τ x) ∧ ∀ j, u 5 j = if 60 * l3 + l4 ≤ j ∧ j < 60 * l3 + l4 + l5 then τ 5 (60 * l1 + l2 + (j - (60 * l3 + l4))) else τ 5 j) = Q
          by_cases dr : l4 ≤ l2
          · refine kloopP (E := fun i u => E_X12_pour_118 G' l1 l2 l3 l4 l5 i u Q) (fun i u => (∀ x, x ≠ 5 → u x = τ x) ∧ ∀ j, u 5 j = if 60 * l3 + l4 ≤ j ∧ j < 60 * l3 + l4 + (i : Int) then τ 5 (60 * l1 + l2 + (j - (60 * l3 + l4))) else τ 5 j) l5.toNat (fun i u hi hI ih => S_X12_pour_118 ⟨by omega, by omega, fun q => ?_, fun q => ⟨by omega, by omega, fun _ => ⟨by omega, by omega, ih (by omega) _ ?_⟩, fun n => by omega⟩⟩) ⟨fun _ _ => rfl, fun j => by rw [if_neg (by omega)]⟩
            · obtain ⟨i1, i2⟩ := hI
              rw [show (i : Int) = l5 by omega] at i2
              rw [← hQ]; exact ⟨by decide, kb_1 rfl, u, rfl, i1, i2⟩
            · obtain ⟨i1, i2⟩ := hI
              refine ⟨fun x a => by rw [kup_o a]; exact i1 x a, fun j => ?_⟩
              by_cases e : j = 60 * l3 + l4 + i
              · rw [e, kup_at, if_pos (by omega), i2, if_neg (by omega)]
                congr 1; omega
              · rw [kup_j e, i2 j]
                by_cases z : 60 * l3 + l4 ≤ j ∧ j < 60 * l3 + l4 + (i : Int)
                · rw [if_pos z, if_pos (by omega)]
                · rw [if_neg z, if_neg (by omega)]
          · refine kloopP (E := fun i u => E_X12_pour_118 G' l1 l2 l3 l4 l5 i u Q) (fun i u => (∀ x, x ≠ 5 → u x = τ x) ∧ ∀ j, u 5 j = if 60 * l3 + l4 + l5 - (i : Int) ≤ j ∧ j < 60 * l3 + l4 + l5 then τ 5 (60 * l1 + l2 + (j - (60 * l3 + l4))) else τ 5 j) l5.toNat (fun i u hi hI ih => S_X12_pour_118 ⟨by omega, by omega, fun q => ?_, fun q => ⟨by omega, by omega, fun n => by omega, fun _ => ⟨by omega, by omega, ih (by omega) _ ?_⟩⟩⟩) ⟨fun _ _ => rfl, fun j => by rw [if_neg (by omega)]⟩
            · obtain ⟨i1, i2⟩ := hI
              rw [show (i : Int) = l5 by omega] at i2
              rw [← hQ]; refine ⟨by decide, kb_1 rfl, u, rfl, i1, fun j => ?_⟩
              rw [i2 j]
              by_cases z : 60 * l3 + l4 ≤ j ∧ j < 60 * l3 + l4 + l5
              · rw [if_pos z, if_pos (by omega)]
              · rw [if_neg z, if_neg (by omega)]
            · obtain ⟨i1, i2⟩ := hI
              refine ⟨fun x a => by rw [kup_o a]; exact i1 x a, fun j => ?_⟩
              by_cases e : j = 60 * l3 + l4 + (l5 - 1 - i)
              · rw [e, kup_at, if_pos (by omega), i2, if_neg (by omega)]
                congr 1; omega
              · rw [kup_j e, i2 j]
                by_cases z : 60 * l3 + l4 + l5 - (i : Int) ≤ j ∧ j < 60 * l3 + l4 + l5
                · rw [if_pos z, if_pos (by omega)]
                · rw [if_neg z, if_neg (by omega)]
        · obtain ⟨x1, rfl⟩ := x
          obtain ⟨y1, u, rfl, v1, v2⟩ := y
          have cp : ∀ z k, kcpy σ (adT l1 + 1) l2 (adT l3 + 1) l4 l5 z k = if z = adT l3 + 1 ∧ l4 ≤ k ∧ k < l4 + l5 then σ (adT l1 + 1) (l2 + (k - l4)) else σ z k := fun z k => rfl
          have co : ∀ z, z ≠ adT l3 + 1 → kcpy σ (adT l1 + 1) l2 (adT l3 + 1) l4 l5 z = σ z := fun z n => by funext k; rw [cp, if_neg (fun q => n q.1)]
          refine ⟨by rw [x1, y1], R_st (R_tr h (fun z q => co z (by omega)) (fun z p q r => v1 z r) ⟨⟨?_, ?_, fun i a b => ?_⟩, fun t a b => ?_⟩) (by decide)⟩
          · rw [v1 4 (by omega)]; exact T.1.1
          · rw [v1 3 (by omega)]; exact T.1.2.1
          · rw [v2 i]; split
            · exact T.1.2.2 _ (by omega) (by omega)
            · exact T.1.2.2 i a b
          · have br := adT_r (t := t) ⟨a, b⟩
            obtain ⟨d0, d1⟩ := T.2 t a b
            have okt := T.1.1 t a b
            rw [v1 3 (by omega), v1 4 (by omega), co (adT t) (by omega)]
            refine ⟨d0, fun n => ⟨(d1 n).1, fun j p q => ?_⟩⟩
            rw [cp, v2]
            by_cases e : t = l3
            · subst e
              by_cases z : l4 ≤ j ∧ j < l4 + l5
              · rw [if_pos ⟨rfl, z⟩, if_pos (by omega), a4 _ (by omega) (by omega)]
                congr 1; omega
              · rw [if_neg (fun y => z y.2), if_neg (by omega)]; exact (d1 n).2 j p q
            · rw [if_neg (fun y => by omega), if_neg (by omega)]; exact (d1 n).2 j p q
      · refine Op_pure 0 3 h (by decide) (S_X11_pour ?_) (S_X12_pour ?_)
        · rw [a0, b0, a3, a2, b2, b3]
          all_goals (repeat' (with_reducible first | assumption | intro _ | refine And.intro ?_ ?_))
          all_goals (first | omega | contradiction | rfl | exact fX.refl | exact fM.refl | exact kb_0 (by decide) | exact kb_1 rfl | trivial | skip)
        · all_goals (repeat' (with_reducible first | assumption | intro _ | refine And.intro ?_ ?_))
          all_goals (first | omega | contradiction | rfl | exact fX.refl | exact fM.refl | exact kb_0 (by decide) | exact kb_1 rfl | trivial | skip)
    · refine Op_pure 0 8 h (by decide) (S_X11_pour ?_) (S_X12_pour ?_)
      · rw [a0, b0, a3, a2, b2, b3]
        all_goals (repeat' (with_reducible first | assumption | intro _ | refine And.intro ?_ ?_))
        all_goals (first | omega | contradiction | rfl | exact fX.refl | exact fM.refl | exact kb_0 (by decide) | exact kb_1 rfl | trivial | skip)
      · all_goals (repeat' (with_reducible first | assumption | intro _ | refine And.intro ?_ ?_))
        all_goals (first | omega | contradiction | rfl | exact fX.refl | exact fM.refl | exact kb_0 (by decide) | exact kb_1 rfl | trivial | skip)
  · refine Op_pure 0 1 h (by decide) (S_X11_pour ?_) (S_X12_pour ?_)
    · by_cases c1 : 0 ≤ l1 ∧ l1 < 4
      · by_cases c3 : 0 ≤ l3 ∧ l3 < 4
        · all_goals (repeat' (with_reducible first | assumption | intro _ | refine And.intro ?_ ?_))
          all_goals (first | omega | contradiction | rfl | exact fX.refl | exact fM.refl | exact kb_0 (by decide) | exact kb_1 rfl | trivial | skip)
        · all_goals (repeat' (with_reducible first | assumption | intro _ | refine And.intro ?_ ?_))
          all_goals (first | omega | contradiction | rfl | exact fX.refl | exact fM.refl | exact kb_0 (by decide) | exact kb_1 rfl | trivial | skip)
      · all_goals (repeat' (with_reducible first | assumption | intro _ | refine And.intro ?_ ?_))
        all_goals (first | omega | contradiction | rfl | exact fX.refl | exact fM.refl | exact kb_0 (by decide) | exact kb_1 rfl | trivial | skip)
    · all_goals (repeat' (with_reducible first | assumption | intro _ | refine And.intro ?_ ?_))
      all_goals (first | omega | contradiction | rfl | exact fX.refl | exact fM.refl | exact kb_0 (by decide) | exact kb_1 rfl | trivial | skip)
theorem nrw_small {x s : Int} (h : 0 ≤ x ∧ x ≤ 12) : nrw x s = x := by
  have q : ∀ n : Nat, n ≤ 12 → ki2b (n : Int) = n ∧ ki2s (n : Int) = n ∧ ki2i (n : Int) = n := by decide +kernel
  obtain ⟨n, rfl⟩ := Int.eq_ofNat_of_zero_le h.1
  have := q n (by omega)
  unfold nrw
  split
  · exact this.1
  split
  · exact this.2.1
  split
  · exact this.2.2
  · rfl
theorem P_X11_stripTrayStatus {G : Kg} {σ τ : Kmem} {l : Int} (h : R σ τ) (c : 0 ≤ l ∧ l < 4) : Run G WX M_X11_stripTrayStatus 0 0 0 [vA G 0, vI l] σ (fun r s => r = (if τ 4 l = -1 then 2 else if τ 4 l < τ 1 0 then 3 else 0) ∧ s = σ) := by
  obtain ⟨w, k⟩ := R_w h
  have w1 := wf_h w
  have T := h.2.2.2.2.2.1
  obtain ⟨e0, e1⟩ := T.2 l c.1 c.2
  have ok := T.1.1 l c.1 c.2
  have k0 := (kco_h k).1.1
  refine S_X11_stripTrayStatus ?_
  by_cases z : τ 4 l = -1
  · rw [kb_0 (fun n => n z)] at e0
    rw [e0, if_pos z]
    all_goals (repeat' (with_reducible first | assumption | intro _ | refine And.intro ?_ ?_))
    all_goals (first | omega | contradiction | rfl | exact fX.refl | exact fM.refl | exact kb_0 (by decide) | exact kb_1 rfl | trivial | skip)
  · rw [kb_1 z] at e0
    rw [e0, (e1 z).1.2, k0, if_neg z]
    by_cases y : τ 4 l < τ 1 0
    · rw [if_pos y]
      all_goals (repeat' (with_reducible first | assumption | intro _ | refine And.intro ?_ ?_))
      all_goals (first | omega | contradiction | rfl | exact fX.refl | exact fM.refl | exact kb_0 (by decide) | exact kb_1 rfl | trivial | skip)
    · rw [if_neg y]
      all_goals (repeat' (with_reducible first | assumption | intro _ | refine And.intro ?_ ?_))
      all_goals (first | omega | contradiction | rfl | exact fX.refl | exact fM.refl | exact kb_0 (by decide) | exact kb_1 rfl | trivial | skip)
theorem O_strip {G G' : Kg} {σ τ : Kmem} {l1 l2 l3 : Int} (h : R σ τ) (r1 : rI l1) (r2 : rI l2) (r3 : rI l3) : Op G G' M_X11_strip M_X12_strip 5 6 [vA G 0, vI l1, vI l2, vI l3] [vA G' 0, vI l1, vI l2, vI l3] σ τ := by
  obtain ⟨w, k⟩ := R_w h
  have w1 := wf_h w
  have T := h.2.2.2.2.2.1
  by_cases c : sKt (τ 1) l1 ∧ (0 ≤ l2 ∧ l2 < τ 1 1) ∧ 0 ≤ l3 ∧ l3 < 4
  · obtain ⟨c1, c2, c3⟩ := c
    have ar := adT_r c3
    obtain ⟨e0, e1⟩ := T.2 l3 c3.1 c3.2
    have ok := T.1.1 l3 c3.1 c3.2
    have so := T.1.2.1 l3 c3.1 c3.2
    have ws : sWSt (τ 1) (τ 4) l2 l3 = if τ 4 l3 = -1 then 2 else if τ 4 l3 < τ 1 0 then 3 else 0 := by
      unfold sWSt
      rw [if_neg (fun n => by rcases n with n | n; exact n c2; exact n c3)]
    by_cases why : (if τ 4 l3 = -1 then (2 : Int) else if τ 4 l3 < τ 1 0 then 3 else 0) = 0
    · have m0 : τ 4 l3 ≠ -1 ∧ τ 1 0 ≤ τ 4 l3 := by
        split at why
        · omega
        split at why <;> omega
      obtain ⟨m1, m2⟩ := m0
      refine ⟨_, _, S_X11_strip (v := τ 1) (Q := fun r s => r = τ 1 0 ∧ ∃ u, s = kup u 0 0 0 ∧ (∀ x, ¬ scX x → x ≠ adT l3 + 1 → u x = σ x) ∧ u 82 6 = σ 82 6 ∧ ∀ j, 0 ≤ j → j < 60 → u (adT l3 + 1) j = if j < τ 1 0 then sStrip (τ 1) l1 j l2 else σ (adT l3 + 1) j) ?_, S_X12_strip (Q := fun r t => r = τ 1 0 ∧ ∃ u, t = kup u 0 2 0 ∧ (∀ x, x ≠ 5 → u x = τ x) ∧ ∀ j, u 5 j = if 60 * l3 ≤ j ∧ j < 60 * l3 + τ 1 0 then sStrip (τ 1) l1 (j - 60 * l3) l2 else τ 5 j) ?_, fun r s r' t x y => ?_⟩
      · refine ⟨⟨w, k, r1⟩, fun n => absurd c1 n, fun _ => ⟨⟨w, k, r2⟩, fun n => absurd c2 n, fun _ => ⟨r3, fun _ => ?_, fun n => absurd c3 n⟩⟩⟩
        refine Run.mono (P_X11_stripTrayStatus h c3) (fun r s e => ?_)
        rw [e.1, e.2, why]
        refine ⟨by decide, fun _ => ?_, fun n => absurd rfl n⟩
        refine Run.mono (P_X0_copy (v := τ 1) isC_31 isC_5 ⟨by decide, w, k⟩) (fun r s e => ?_)
        obtain ⟨-, f1, f2, -⟩ := e
        refine Run.mono (P_X5_countStrips (v := τ 1) ⟨⟨w, f2⟩, c2⟩) (fun r2 s2 g => ?_)
        obtain ⟨-, g1, g2⟩ := g
        have fr : fX s2 σ := (fX_of g1 (fun x q => by unfold scX; omega)).trans (fX_c31 f1)
        generalize hQ : (fun (r : Int) (s : Kmem) => r = τ 1 0 ∧ ∃ u, s = kup u 0 0 0 ∧ (∀ x, ¬ scX x → x ≠ adT l3 + 1 → u x = σ x) ∧ u 82 6 = σ 82 6 ∧ ∀ j, 0 ≤ j → j < 60 → u (adT l3 + 1) j = if j < τ 1 0 then sStrip (τ 1) l1 j l2 else σ (adT l3 + 1) j) = Q
        refine kloopP (E := fun i u => E_X11_strip_77 G l1 l3 i u Q) (fun i u => (∀ x, ¬ scX x → x ≠ adT l3 + 1 → u x = σ x) ∧ u 82 6 = σ 82 6 ∧ (∀ k c, sKt (τ 1) k → 0 ≤ c → c < τ 1 0 → u (90 + k) c = sStrip (τ 1) k c l2) ∧ ∀ j, 0 ≤ j → j < 60 → u (adT l3 + 1) j = if j < (i : Int) then sStrip (τ 1) l1 j l2 else σ (adT l3 + 1) j) (τ 1 0).toNat (fun i u hi hI ih => S_X11_strip_77 (l2 := 0) ?_) ⟨fun x a b => fr.1 x a, fr.2, g2, fun j a b => by rw [if_neg (by omega), fr.1 _ (by unfold scX; omega)]⟩
        obtain ⟨i1, i2, i3, i4⟩ := hI
        have u5 : u 5 0 = τ 1 0 := by rw [i1 5 (by unfold scX; omega) (by omega)]; exact (kco_h k).1.1
        have ut : u (adT l3) 1 = τ 3 l3 := by rw [i1 (adT l3) (by unfold scX; omega) (by omega)]; exact (e1 m1).1.1
        refine ⟨by omega, by rw [u5]; constructor <;> omega, fun q => ?_, fun q => ?_⟩
        · rw [u5] at q
          rw [show (i : Int) = τ 1 0 by omega] at i4
          rw [← hQ, u5]; exact ⟨rfl, u, rfl, i1, i2, i4⟩
        · rw [u5] at q
          have st := sStrip_r (v := τ 1) (k := l1) (c := i) (r := l2)
          have ci := i3 l1 i c1 (by omega) q
          have c1' := c1.1
          have c2' := c1.2
          rw [ci]
          refine ⟨c3, by omega, by omega, by constructor <;> omega, Run.mono (P_X10_put (adT_is c3) ⟨by rw [ut]; constructor <;> omega, by omega, by omega⟩) (fun r s e => ?_)⟩
          rw [e.2, nrw_small (by omega)]
          refine ih (by omega) _ ⟨fun x a b => by rw [kup_o b]; exact i1 x a b, by rw [kup_o (by omega)]; exact i2, fun k' c' a b d => by rw [kup_o (by have := a.1; have := a.2; omega)]; exact i3 k' c' a b d, fun j a b => ?_⟩
          by_cases e : j = i
          · rw [e, kup_at, if_pos (by omega)]
          · rw [kup_j e, i4 j a b]
            by_cases z : j < (i : Int)
            · rw [if_pos z, if_pos (by omega)]
            · rw [if_neg z, if_neg (by omega)]
      · refine ⟨⟨r1, w⟩, fun n => absurd c1 n, fun _ => ⟨⟨w, T.1.1, r2, r3⟩, by rw [ws, why]; decide, fun _ => ?_, fun q => by rw [ws, why] at q; omega⟩⟩
        generalize hQ : (fun (r : Int) (t : Kmem) => r = τ 1 0 ∧ ∃ u, t = kup u 0 2 0 ∧ (∀ x, x ≠ 5 → u x = τ x) ∧ ∀ j, u 5 j = if 60 * l3 ≤ j ∧ j < 60 * l3 + τ 1 0 then sStrip (τ 1) l1 (j - 60 * l3) l2 else τ 5 j) = Q
        refine kloopP (E := fun i u => E_X12_strip_35 G' l1 l2 l3 i u Q) (fun i u => (∀ x, x ≠ 5 → u x = τ x) ∧ ∀ j, u 5 j = if 60 * l3 ≤ j ∧ j < 60 * l3 + (i : Int) then sStrip (τ 1) l1 (j - 60 * l3) l2 else τ 5 j) (τ 1 0).toNat (fun i u hi hI ih => S_X12_strip_35 ?_) ⟨fun _ _ => rfl, fun j => by rw [if_neg (by omega)]⟩
        obtain ⟨i1, i2⟩ := hI
        have st := sStrip_r (v := τ 1) (k := l1) (c := i) (r := l2)
        rw [i1 1 (by omega)]
        refine ⟨by omega, by constructor <;> omega, fun q => ?_, fun q => ⟨⟨w, c1, by omega, by omega, by omega⟩, by constructor <;> omega, by omega, ih (by omega) _ ⟨fun x a => by rw [kup_o a]; exact i1 x a, fun j => ?_⟩⟩⟩
        · rw [show (i : Int) = τ 1 0 by omega] at i2
          rw [← hQ]; exact ⟨rfl, u, rfl, i1, i2⟩
        · by_cases e : j = 60 * l3 + i
          · rw [e, kup_at, if_pos (by omega), show 60 * l3 + (i : Int) - 60 * l3 = i by omega]
          · rw [kup_j e, i2 j]
            by_cases z : 60 * l3 ≤ j ∧ j < 60 * l3 + (i : Int)
            · rw [if_pos z, if_pos (by omega)]
            · rw [if_neg z, if_neg (by omega)]
      · obtain ⟨x1, u, rfl, u1, u2, u3⟩ := x
        obtain ⟨y1, v, rfl, v1, v2⟩ := y
        have st := fun j => sStrip_r (v := τ 1) (k := l1) (c := j) (r := l2)
        -- first the scratch, then the tray
        have A : R (fun x => if x = adT l3 + 1 then σ x else u x) τ := R_fX h ⟨fun x a => by by_cases e : x = adT l3 + 1; exact if_pos e; exact (if_neg e).trans (u1 x a e), by show (if (82 : Int) = adT l3 + 1 then σ 82 else u 82) 6 = σ 82 6; rw [if_neg (by omega)]; exact u2⟩
        refine ⟨by rw [x1, y1], R_st (R_tr A (fun x q => (if_neg (by omega)).symm) (fun x p q r => v1 x r) ⟨⟨?_, ?_, fun i a b => ?_⟩, fun t a b => ?_⟩) (by decide)⟩
        · rw [v1 4 (by omega)]; exact T.1.1
        · rw [v1 3 (by omega)]; exact T.1.2.1
        · rw [v2 i]; split
          · have := st (i - 60 * l3); constructor <;> omega
          · exact T.1.2.2 i a b
        · have br := adT_r (t := t) ⟨a, b⟩
          obtain ⟨d0, d1⟩ := T.2 t a b
          have okt := T.1.1 t a b
          rw [v1 3 (by omega), v1 4 (by omega), u1 (adT t) (by unfold scX; omega) (by omega)]
          refine ⟨d0, fun n => ⟨(d1 n).1, fun j p q => ?_⟩⟩
          rw [v2]
          by_cases e : t = l3
          · subst e
            rw [u3 j p (by omega)]
            by_cases z : j < τ 1 0
            · rw [if_pos z, if_pos (by omega), show 60 * t + j - 60 * t = j by omega]
            · rw [if_neg z, if_neg (by omega)]; exact (d1 n).2 j p q
          · rw [u1 (adT t + 1) (by unfold scX; omega) (by omega), if_neg (by omega)]; exact (d1 n).2 j p q
    · have wr : 0 < (if τ 4 l3 = -1 then (2 : Int) else if τ 4 l3 < τ 1 0 then 3 else 0) ∧ (if τ 4 l3 = -1 then (2 : Int) else if τ 4 l3 < τ 1 0 then 3 else 0) ≤ 3 := by
        split at why
        · rw [if_pos (by assumption)]; omega
        · rw [if_neg (by assumption)]
          split at why
          · rw [if_pos (by assumption)]; omega
          · omega
      refine Op_pure (-1) (if τ 4 l3 = -1 then (2 : Int) else if τ 4 l3 < τ 1 0 then 3 else 0) h (by constructor <;> omega) (S_X11_strip (v := τ 1) ⟨⟨w, k, r1⟩, fun n => absurd c1 n, fun _ => ⟨⟨w, k, r2⟩, fun n => absurd c2 n, fun _ => ⟨r3, fun _ => ?_, fun n => absurd c3 n⟩⟩⟩) (S_X12_strip ⟨⟨r1, w⟩, fun n => absurd c1 n, fun _ => ⟨⟨w, T.1.1, r2, r3⟩, by rw [ws]; constructor <;> omega, fun q => by rw [ws] at q; omega, fun _ => by rw [ws]; exact ⟨rfl, fM.refl⟩⟩⟩)
      refine Run.mono (P_X11_stripTrayStatus h c3) (fun r s e => ?_)
      rw [e.1, e.2]
      exact ⟨by constructor <;> omega, fun z => absurd z why, fun _ => ⟨rfl, fX.refl⟩⟩
  · refine Op_pure (-1) 1 h (by decide) (S_X11_strip (v := τ 1) ?_) (S_X12_strip ?_)
    · all_goals (repeat' (with_reducible first | assumption | intro _ | refine And.intro ?_ ?_))
      all_goals (first | omega | contradiction | rfl | exact fX.refl | exact fM.refl | exact kb_0 (by decide) | exact kb_1 rfl | trivial | skip)
    · have ws : sKt (τ 1) l1 → sWSt (τ 1) (τ 4) l2 l3 = 1 := fun q => by
        unfold sWSt
        rw [if_pos]
        by_cases z : 0 ≤ l2 ∧ l2 < τ 1 1
        · exact Or.inr (fun y => c ⟨q, z, y⟩)
        · exact Or.inl z
      refine ⟨⟨r1, w⟩, fun _ => ⟨rfl, fM.refl⟩, fun q => ?_⟩
      rw [ws q]
      exact ⟨⟨w, T.1.1, r2, r3⟩, by decide, fun y => by omega, fun _ => ⟨rfl, fM.refl⟩⟩
