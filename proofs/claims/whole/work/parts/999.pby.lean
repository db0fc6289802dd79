/-! Seasons: an end, on both sides -/
abbrev aS (s x : Int) : Prop := x = 3 ∨ (s ≤ x ∧ x < s + 7)
def zGo (s : Int) (r : Prop × Kmem) (σ : Kmem) (y : Int) (m : Kmem) : Prop := y = kb r.1 ∧ tRs (kup m s 2 (m s 2 + 1)) r.2 ∧ (r.1 → zP s (kup m s 2 (m s 2 + 1)) (vN r.2) (r.2 8) (r.2 0 23) (r.2 1 2064) (r.2 0 22)) ∧ kfm (aS s) m σ
theorem zEnd {G : Kg} {σ τ : Kmem} {s : Int} (hs : isS s) (h : tRs σ τ) (c : snI τ) (z : zP s σ (vN τ) (τ 8) (τ 0 23) (τ 1 2064) (τ 0 22)) (k22 : tWi τ = 22) : Run G WX M_X7_readEnd 2 0 0 [vA G s, vA G 3] σ (fun y m => zGo s (cSb τ) σ y m) := by
  have fs := isS_f hs
  have t1 := c.1.1.1
  obtain ⟨⟨n0, cn⟩, cd, cc⟩ := c.2.1
  have pj := c.2.2.2.1
  obtain ⟨⟨z1, z2, z9⟩, z6, zl⟩ := z
  have e : cSb τ = kif (tWi τ < 15 ∨ 23 < tWi τ ∨ (tWi τ = 22 ∧ τ 0 22 = 0)) (False, tF τ 2) (kif (tWi τ ≠ 22 ∧ τ 0 23 = 30) (False, tF τ 6) (kif ((tWi τ = 20 ∨ tWi τ = 21) ∧ τ 0 22 = 3) (False, tF τ 7) (cThen (cOrd (tWi τ) (2206 + 6 * τ 1 2064) (tA (snL (tWi τ) τ))) (fun u => (True, sOpn (tWi τ) (τ 1 2064) u))))) := rfl
  have opn : τ 0 22 ≠ 0 → 0 ≤ τ 8 (τ 0 22 - 1) ∧ τ 8 (τ 0 22 - 1) < τ 1 2064 := fun q => (pj (τ 0 22 - 1) (by omega) (by omega)).1
  refine Run.mono (P_X7_readEnd hs h t1 (by omega) ⟨by omega, fun _ => by omega⟩ (fun q => ?_)) (fun y m x => ?_)
  · have := opn (by omega)
    rw [z9, z6 _ (by omega) (by omega)]; omega
  obtain ⟨x1, x2⟩ := x
  have ts : ∀ v : Kmem, tRs m v → tRs (kup m s 2 (m s 2 + 1)) v := fun v q => tRs_57 q (by omega)
  by_cases d0 : τ 0 22 = 0
  · obtain ⟨y1, y2, y3⟩ := x1 (by omega)
    rw [kif_t (by omega)] at e
    rw [e]
    exact ⟨by rw [y1, kb_0 (fun z => z)], ts _ y2, fun z => z.elim, fun x hx => y3.1 x (by omega)⟩
  obtain ⟨y1, y2, ⟨y9, yj⟩, k1, k5, yx⟩ := x2 (by omega)
  rw [kif_f (by omega), kif_f (by omega), kif_f (by omega)] at e
  have U := step_u c (by omega) (by omega)
  have E2 : cOrd (tWi τ) (2206 + 6 * τ 1 2064) (tA (snL (tWi τ) τ)) = (True, tA (snL (tWi τ) τ)) := by unfold cOrd; rw [if_neg (by omega), if_neg (by omega), if_neg (by omega), if_neg (by omega), if_neg (by omega)]
  obtain ⟨⟨-, n59⟩, -, -, U2⟩ := U
  rw [E2] at U2
  obtain ⟨-, ⟨u22, u23, u8⟩, un, uj, uk, -⟩ := U2 trivial
  rw [E2, cThen_t (r := (True, tA (snL (tWi τ) τ))) trivial] at e
  rw [e]
  have rs := tRs_L (k := tWi τ) y2
  change (tA (snL (tWi τ) τ)) 0 22 = _ at u22
  change (tA (snL (tWi τ) τ)) 0 23 = _ at u23
  change (tA (snL (tWi τ) τ)) 8 = _ at u8
  change vN (tA (snL (tWi τ) τ)) 8 = _ at un
  change ∀ j, _ → _ → vN (tA (snL (tWi τ) τ)) j = _ at uj
  change _ → vN (tA (snL (tWi τ) τ)) _ = _ at uk
  rw [k22] at *
  generalize tA (snL 22 τ) = u at *
  have o2 := opn d0
  have hs' : sOpn 22 (τ 1 2064) u = kup (kup (kup u 0 22 (u 0 22 - 1)) 1 (2206 + 6 * τ 1 2064 + 4) (u 8 (u 0 22 - 1))) 1 (2206 + 6 * u 8 (u 0 22 - 1) + 4) (τ 1 2064) := by unfold sOpn; rw [if_neg (by omega), if_pos rfl]
  have rS := tRs_sO (k := 22) (n := τ 1 2064) rs
  rw [z9, z6 _ (by omega) (by omega), z2] at k5
  rw [z2] at k1
  refine ⟨by rw [y1, kb_1 trivial], ts _ rS, fun _ => ?_, fun x hx => yx x (by omega) (by omega) (by omega) (by omega)⟩
  show zP s _ (vN (sOpn 22 (τ 1 2064) u)) (sOpn 22 (τ 1 2064) u 8) (sOpn 22 (τ 1 2064) u 0 23) (sOpn 22 (τ 1 2064) u 1 2064) (sOpn 22 (τ 1 2064) u 0 22)
  rw [hs', u22, u8]
  have hn1 := nv_up (τ := kup u 0 22 (τ 0 22 - 1)) (y := τ 8 (τ 0 22 - 1)) (i := 150 + 6 * τ 1 2064 + 4) (show 2206 + 6 * τ 1 2064 + 4 = 2056 + (150 + 6 * τ 1 2064 + 4) by omega)
  have hn2 := nv_up (τ := kup (kup u 0 22 (τ 0 22 - 1)) 1 (2206 + 6 * τ 1 2064 + 4) (τ 8 (τ 0 22 - 1))) (y := τ 1 2064) (i := 150 + 6 * τ 8 (τ 0 22 - 1) + 4) (show 2206 + 6 * τ 8 (τ 0 22 - 1) + 4 = 2056 + (150 + 6 * τ 8 (τ 0 22 - 1) + 4) by omega)
  have v0 : vN (kup u 0 22 (τ 0 22 - 1)) = vN u := by unfold vN; rw [kup_o (x := 1) (by omega)]
  rw [v0] at hn1
  have v22 : kup (kup (kup u 0 22 (τ 0 22 - 1)) 1 (2206 + 6 * τ 1 2064 + 4) (τ 8 (τ 0 22 - 1))) 1 (2206 + 6 * τ 8 (τ 0 22 - 1) + 4) (τ 1 2064) 0 22 = τ 0 22 - 1 := by rw [kup_x (by omega), kup_x (by omega), kup_at]
  have v23 : kup (kup (kup u 0 22 (τ 0 22 - 1)) 1 (2206 + 6 * τ 1 2064 + 4) (τ 8 (τ 0 22 - 1))) 1 (2206 + 6 * τ 8 (τ 0 22 - 1) + 4) (τ 1 2064) 0 23 = τ 0 23 := by rw [kup_x (by omega), kup_x (by omega), kup_j (by omega), u23, if_pos rfl]; omega
  have v8 : kup (kup (kup u 0 22 (τ 0 22 - 1)) 1 (2206 + 6 * τ 1 2064 + 4) (τ 8 (τ 0 22 - 1))) 1 (2206 + 6 * τ 8 (τ 0 22 - 1) + 4) (τ 1 2064) 8 = τ 8 := by rw [kup_o (by omega), kup_o (by omega), kup_o (by omega), u8]
  rw [v22, v23, v8]
  have vn : kup (kup (kup u 0 22 (τ 0 22 - 1)) 1 (2206 + 6 * τ 1 2064 + 4) (τ 8 (τ 0 22 - 1))) 1 (2206 + 6 * τ 8 (τ 0 22 - 1) + 4) (τ 1 2064) 1 2064 = τ 1 2064 + 1 := by
    have := hn2.1 8 (by omega)
    rw [hn1.1 8 (by omega), un] at this
    exact this
  rw [vn]
  have w22 : vN (kup (kup (kup u 0 22 (τ 0 22 - 1)) 1 (2206 + 6 * τ 1 2064 + 4) (τ 8 (τ 0 22 - 1))) 1 (2206 + 6 * τ 8 (τ 0 22 - 1) + 4) (τ 1 2064)) (150 + 6 * τ 1 2064) = 22 := by
    rw [hn2.1 _ (by omega), hn1.1 _ (by omega)]; exact uk (by decide)
  have wn4 : vN (kup (kup (kup u 0 22 (τ 0 22 - 1)) 1 (2206 + 6 * τ 1 2064 + 4) (τ 8 (τ 0 22 - 1))) 1 (2206 + 6 * τ 8 (τ 0 22 - 1) + 4) (τ 1 2064)) (150 + 6 * τ 1 2064 + 4) = τ 8 (τ 0 22 - 1) := by
    rw [hn2.1 _ (by omega)]; exact hn1.2
  have wj : ∀ j, 150 ≤ j → j < 150 + 6 * τ 1 2064 → j ≠ 150 + 6 * τ 8 (τ 0 22 - 1) + 4 → vN (kup (kup (kup u 0 22 (τ 0 22 - 1)) 1 (2206 + 6 * τ 1 2064 + 4) (τ 8 (τ 0 22 - 1))) 1 (2206 + 6 * τ 8 (τ 0 22 - 1) + 4) (τ 1 2064)) j = vN τ j := fun j a b c => by
    rw [hn2.1 j c, hn1.1 j (by omega)]; exact uj j a b
  have wt := hn2.2
  generalize vN (kup (kup (kup u 0 22 (τ 0 22 - 1)) 1 (2206 + 6 * τ 1 2064 + 4) (τ 8 (τ 0 22 - 1))) 1 (2206 + 6 * τ 8 (τ 0 22 - 1) + 4) (τ 1 2064)) = w at *
  have mx : ∀ x, x ≠ s → (kup m s 2 (m s 2 + 1)) x = m x := fun x hx => kup_o hx
  refine ⟨⟨by rw [kup_j (by omega), yj 1 (by omega)]; exact z1, by rw [kup_at, yj 2 (by omega), z2], by rw [kup_j (by omega), y9, z9]⟩, fun i a b => ?_, fun k a b => ?_⟩
  · rw [mx _ (by omega), yx _ (by omega) (by omega) (by omega) (by omega)]; exact z6 i a (by omega)
  · unfold zL1
    rw [mx (s + 1) (by omega), mx (s + 5) (by omega), k1, k5]
    have cols : ∀ p, p = 2 ∨ p = 3 ∨ p = 4 → (kup m s 2 (m s 2 + 1)) (s + p) = σ (s + p) := fun p hp => by rw [mx _ (by omega), yx _ (by omega) (by omega) (by omega) (by omega)]
    by_cases en : k = τ 1 2064
    · rw [en, w22, wn4, ku_eq, ku_ne (by omega), ku_eq]
      refine ⟨by decide, ?_, fun _ => rfl⟩
      unfold lOk
      rw [w22]
      exact ⟨fun x => by omega, fun x => by omega, fun x => by omega, fun x => by omega⟩
    · obtain ⟨l1, l2, l3⟩ := zl k a (by omega)
      have wk := wj (150 + 6 * k) (by omega) (by omega) (by omega)
      rw [wk, ku_ne en]
      refine ⟨l1, lOk_eq l2 (fun d _ _ _ => wj _ (by omega) (by omega) (by omega)) ⟨by rw [cols 2 (by omega)], by rw [cols 3 (by omega)], by rw [cols 4 (by omega)]⟩, fun zc => ?_⟩
      by_cases et : k = τ 8 (τ 0 22 - 1)
      · rw [et, ku_eq, wt]
      · rw [ku_ne et, ku_ne en, wj _ (by omega) (by omega) (by omega)]
        refine l3 ?_
        unfold zCl at *
        rw [wk] at zc
        refine zc.imp id (fun q => ⟨q.1, fun i p1 p2 => ?_⟩)
        by_cases ei : i = τ 0 22 - 1
        · rw [ei]; exact fun x => et x.symm
        · exact q.2 i p1 (by omega)
