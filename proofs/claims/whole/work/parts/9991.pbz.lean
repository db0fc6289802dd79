/-! Seasons: a step, on both sides -/
theorem kKd_big {x : Int} (h : 2024 ≤ x) : kKd x = 6 := by
  unfold kKd
  rw [if_neg (by omega), if_neg (by omega), if_neg (by omega), if_neg (by omega), if_neg (by omega), if_neg (by omega), if_neg (by omega), if_neg (by omega)]
theorem zWord {G : Kg} {σ τ : Kmem} {s c : Int} (hs : isS s) (hc : isC c) (far : c + 26 ≤ s ∨ s + 7 ≤ c) (h : tRs σ τ) (ci : snI τ) (z : zP s σ (vN τ) (τ 8) (τ 0 23) (τ 1 2064) (τ 0 22)) (nz : nmZ σ c τ) (k22 : tWi τ ≠ 22) : Run G WX M_X7_readStepWord 6 0 0 [vA G s, vA G 3] σ (fun y m => rI y ∧ ((y = 0 → zGo s (cSb τ) σ 0 m) ∧ (y ≠ 0 → Run G WX M_X7_readRest 8 0 0 [vA G s, vA G 3, vA G c] m (fun r t => zGo s (cSb τ) σ r t)))) := by
  have fs := isS_f hs
  have fc : c ≠ 3 ∧ 5 ≤ c := by rcases hc with e | e | e | e | e <;> subst e <;> decide
  have t1 := ci.1.1.1
  obtain ⟨⟨n0, cn⟩, cd, cc⟩ := ci.2.1
  obtain ⟨⟨z1, z2, z9⟩, z6, zl⟩ := z
  have e : cSb τ = kif (tWi τ < 15 ∨ 23 < tWi τ ∨ (tWi τ = 22 ∧ τ 0 22 = 0)) (False, tF τ 2) (kif (tWi τ ≠ 22 ∧ τ 0 23 = 30) (False, tF τ 6) (kif ((tWi τ = 20 ∨ tWi τ = 21) ∧ τ 0 22 = 3) (False, tF τ 7) (cThen (cOrd (tWi τ) (2206 + 6 * τ 1 2064) (tA (snL (tWi τ) τ))) (fun u => (True, sOpn (tWi τ) (τ 1 2064) u))))) := rfl
  have fail : ∀ q m, cSb τ = (False, tF τ q) → tRs m (tF τ q) → kS jB m σ → zGo s (cSb τ) σ 0 m := fun q m a b k => by
    rw [a]; exact ⟨(kb_0 (fun z => z)).symm, tRs_57 b (by omega), fun z => z.elim, fun x hx => k.1 x (by omega)⟩
  refine Run.mono (P_X7_readStepWord hs h t1 (by omega) (by omega) (by omega) (by omega)) (fun y m x => ?_)
  obtain ⟨x1, x2⟩ := x
  by_cases v : 15 ≤ tWi τ ∧ tWi τ ≤ 23 ∧ tWi τ ≠ 22
  rotate_left
  · obtain ⟨y1, y2, y3⟩ := x1 v
    subst y1
    rw [kif_t (by omega)] at e
    exact ⟨by decide, fun _ => fail 2 m e y2 y3, fun z => absurd rfl z⟩
  obtain ⟨x3, x4⟩ := x2 v
  rw [kif_f (by omega)] at e
  by_cases c30 : τ 0 23 = 30
  · obtain ⟨y1, y2, y3⟩ := x3 (by omega)
    subst y1
    rw [kif_t ⟨k22, c30⟩] at e
    exact ⟨by decide, fun _ => fail 6 m e y2 y3, fun z => absurd rfl z⟩
  obtain ⟨x5, x6⟩ := x4 (by omega)
  rw [kif_f (by omega)] at e
  by_cases d3 : (tWi τ = 20 ∨ tWi τ = 21) ∧ τ 0 22 = 3
  · obtain ⟨y1, y2, y3⟩ := x5 ⟨d3.1, by omega⟩
    subst y1
    rw [kif_t d3] at e
    exact ⟨by decide, fun _ => fail 7 m e y2 y3, fun z => absurd rfl z⟩
  obtain ⟨y1, w1, ⟨w2, w3, w4⟩, w5, w6, w7⟩ := x6 (by rw [z9]; exact d3)
  subst y1
  rw [kif_f d3] at e
  refine ⟨by decide, fun z => absurd z (by decide), fun _ => ?_⟩
  obtain ⟨⟨-, n59⟩, Uk, ⟨U1, U2, U3, U4⟩, U⟩ := step_u ci (by omega) (fun _ => c30)
  have l2 : m s 2 = τ 1 2064 := by rw [w4 2 (by omega) (by omega), z2]
  have nm : nmZ m c (tA (snL (tWi τ) τ)) := by
    refine nmZ_u (τ := τ) ?_ U2 ⟨U3, U4⟩
    obtain ⟨⟨a1, a2⟩, b1, b2⟩ := nz
    have k2 := ci.1.2.1
    have k3 := ci.1.2.2
    have ec : ∀ x, c ≤ x → x < c + 26 → m x = σ x := fun x a b => w7 x (by omega) (by omega) (by omega) (by omega)
    exact ⟨⟨by rw [ec c (by omega) (by omega)]; exact a1, fun i p q => by rw [ec _ (by omega) (by omega)]; exact a2 i p q⟩, by rw [ec c (by omega) (by omega)]; exact b1, fun i p q => by rw [ec _ (by omega) (by omega)]; exact b2 i p q⟩
  have kd : m (s + 1) (m s 2) = kKd (tWi τ) := by rw [w5, l2, z2, ku_eq]
  refine Run.mono (P_X7_readRest (r := 2206 + 6 * τ 1 2064) (i := 150 + 6 * τ 1 2064) hs hc far (tRs_L w1) Uk nm (by omega) (by omega) (by omega) v U1 kd) (fun r t x => ?_)
  obtain ⟨r1, r2, r3, r4⟩ := x
  have fr : kfm (aS s) t σ := fun x hx => by rw [r3.1 x (by omega) (by omega) (by omega) (by omega), w7 x (by omega) (by omega) (by omega) (by omega)]
  rw [e]
  by_cases y : (cOrd (tWi τ) (2206 + 6 * τ 1 2064) (tA (snL (tWi τ) τ))).1
  rotate_left
  · rw [cThen_f y]
    exact ⟨by rw [r1, kb_0 y, kb_0 (fun z => z)], tRs_57 r2 (by omega), fun z => z.elim, fr⟩
  rw [cThen_t y]
  obtain ⟨-, ⟨u22, u23, u8⟩, un, uj, uk, uk2⟩ := U y
  have r4 := r4 y
  generalize (cOrd (tWi τ) (2206 + 6 * τ 1 2064) (tA (snL (tWi τ) τ))).2 = u at *
  refine ⟨by rw [r1, kb_1 y, kb_1 trivial], tRs_57 (tRs_sO r2) (by omega), fun _ => ?_, fr⟩
  show zP s _ (vN (sOpn (tWi τ) (τ 1 2064) u)) (sOpn (tWi τ) (τ 1 2064) u 8) (sOpn (tWi τ) (τ 1 2064) u 0 23) (sOpn (tWi τ) (τ 1 2064) u 1 2064) (sOpn (tWi τ) (τ 1 2064) u 0 22)
  have ts : t s = m s := r3.1 s (by omega) (by omega) (by omega) (by omega)
  have mx : ∀ x, x ≠ s → (kup t s 2 (t s 2 + 1)) x = t x := fun x hx => kup_o hx
  have t1' : t (s + 1) = m (s + 1) := r3.1 _ (by omega) (by omega) (by omega) (by omega)
  have t5 : t (s + 5) = σ (s + 5) := by rw [r3.1 _ (by omega) (by omega) (by omega) (by omega), w7 _ (by omega) (by omega) (by omega) (by omega)]
  have t6 : t (s + 6) = m (s + 6) := r3.1 _ (by omega) (by omega) (by omega) (by omega)
  have sv : vN (sOpn (tWi τ) (τ 1 2064) u) = vN u ∧ sOpn (tWi τ) (τ 1 2064) u 0 23 = τ 0 23 + 1 ∧ sOpn (tWi τ) (τ 1 2064) u 0 22 = (τ 0 22 + if tWi τ = 20 ∨ tWi τ = 21 then 1 else 0) ∧ sOpn (tWi τ) (τ 1 2064) u 8 = if tWi τ = 20 ∨ tWi τ = 21 then ku (τ 8) (τ 0 22) (τ 1 2064) else τ 8 := by
    rw [if_neg k22] at u23
    by_cases op : tWi τ = 20 ∨ tWi τ = 21
    · have hs' : sOpn (tWi τ) (τ 1 2064) u = kup (kup u 8 (u 0 22) (τ 1 2064)) 0 22 (u 0 22 + 1) := by unfold sOpn; rw [if_pos op]
      rw [hs', if_pos op, if_pos op]
      refine ⟨by unfold vN; rw [kup_o (x := 1) (by omega), kup_o (x := 1) (by omega)], by rw [kup_j (by omega), kup_x (by omega), u23], by rw [kup_at, u22], by rw [kup_o (by omega), kup_k, kst_eq, u8, u22]⟩
    · rw [sOpn_own (by omega), if_neg op, if_neg op, Int.add_zero]
      exact ⟨rfl, u23, u22, u8⟩
  obtain ⟨s1, s2, s3, s4⟩ := sv
  have s5 : sOpn (tWi τ) (τ 1 2064) u 1 2064 = τ 1 2064 + 1 := by
    have : sOpn (tWi τ) (τ 1 2064) u 1 2064 = vN (sOpn (tWi τ) (τ 1 2064) u) 8 := rfl
    rw [this, s1, un]
  rw [s1, s2, s3, s4, s5]
  rw [z2, z9] at w6
  rw [z2] at w5
  refine ⟨⟨by rw [kup_j (by omega), ts, w2, z1], by rw [kup_at, ts, l2], by rw [kup_j (by omega), ts, w3, z9]⟩, fun i a b => ?_, fun k a b => ?_⟩
  · rw [mx _ (by omega), t6, w6]
    by_cases op : tWi τ = 20 ∨ tWi τ = 21
    · rw [if_pos op, if_pos op]
      rw [if_pos op] at b
      by_cases q : i = τ 0 22
      · rw [q, ku_eq, ku_eq]
      · rw [ku_ne q, ku_ne q]; exact z6 i a (by omega)
    · rw [if_neg op, if_neg op]
      rw [if_neg op] at b
      exact z6 i a (by omega)
  · unfold zL1
    rw [mx (s + 1) (by omega), mx (s + 5) (by omega), t1', t5, w5]
    by_cases en : k = τ 1 2064
    · rw [en, ku_eq]
      rw [l2] at r4
      refine ⟨?_, lOk_eq r4 (fun _ _ _ _ => rfl) ⟨by rw [mx _ (by omega)], by rw [mx _ (by omega)], by rw [mx _ (by omega)]⟩, fun zc => ?_⟩
      · by_cases q : tWi τ = 20
        · rw [kKd_big (uk2 q), q]; rfl
        · rw [uk q]
      · exfalso
        rcases zc with q | ⟨q1, q2⟩
        · by_cases q20 : tWi τ = 20
          · have := uk2 q20; omega
          · rw [uk q20] at q; exact k22 q
        · by_cases op : tWi τ = 20 ∨ tWi τ = 21
          · rw [if_pos op, if_pos op] at q2
            exact q2 (τ 0 22) (by omega) (by omega) ku_eq
          · rw [uk (by omega)] at q1
            unfold pOp at q1; omega
    · obtain ⟨l1, l2', l3⟩ := zl k a (by omega)
      have wj : ∀ j, 150 ≤ j → j < 150 + 6 * τ 1 2064 → vN u j = vN τ j := uj
      have cols := r3.2 k (by rw [l2]; exact en)
      have c2 : m (s + 2) = σ (s + 2) := w7 _ (by omega) (by omega) (by omega) (by omega)
      have c3 : m (s + 3) = σ (s + 3) := w7 _ (by omega) (by omega) (by omega) (by omega)
      have c4 : m (s + 4) = σ (s + 4) := w7 _ (by omega) (by omega) (by omega) (by omega)
      rw [ku_ne en, wj (150 + 6 * k) (by omega) (by omega)]
      refine ⟨l1, lOk_eq l2' (fun d _ _ _ => wj _ (by omega) (by omega)) ⟨by rw [mx _ (by omega), cols.1, c2], by rw [mx _ (by omega), cols.2.1, c3], by rw [mx _ (by omega), cols.2.2, c4]⟩, fun zc => ?_⟩
      rw [wj _ (by omega) (by omega)]
      refine l3 ?_
      unfold zCl at *
      rw [wj _ (by omega) (by omega)] at zc
      refine zc.imp id (fun q => ⟨q.1, fun i p1 p2 => ?_⟩)
      have := q.2 i p1 (by split <;> omega)
      by_cases op : tWi τ = 20 ∨ tWi τ = 21
      · rw [if_pos op, ku_ne (by omega)] at this; exact this
      · rw [if_neg op] at this; exact this
