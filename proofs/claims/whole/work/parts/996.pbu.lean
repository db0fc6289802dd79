/-! Seasons: what stands behind a step's word -/
def lOk (s n i : Int) (w : Int → Int) (m : Kmem) : Prop := (2024 ≤ w i → m (s + 2) n = zTs w i) ∧ ((16 ≤ w i ∧ w i ≤ 19) ∨ 2024 ≤ w i → m (s + 3) n = w (i + 1)) ∧ (w i = 15 ∨ w i = 21 → m (s + 4) n = w (i + 1)) ∧ (w i = 16 ∨ w i = 2024 → m (s + 4) n = w (i + 2))
def rOk (s i : Int) (r : Prop × Kmem) (σ : Kmem) (y : Int) (m : Kmem) : Prop := y = kb r.1 ∧ tRs m r.2 ∧ zT s m σ ∧ (r.1 → lOk s (σ s 2) i (vN r.2) m)
theorem P_X7_readRest {G : Kg} {σ u : Kmem} {s c r i k : Int} (hs : isS s) (hc : isC c) (far : c + 26 ≤ s ∨ s + 7 ≤ c) (h : tRs σ u) (t : sk0 u) (z : nmZ σ c u) (hn : 0 ≤ σ s 2 ∧ σ s 2 < 60) (hi : r = 2056 + i) (hr : 2206 ≤ r ∧ r ≤ 2560) (hk : 15 ≤ k ∧ k ≤ 23 ∧ k ≠ 22) (vk : vN u i = k) (kd : σ (s + 1) (σ s 2) = kKd k) : Run G WX M_X7_readRest 8 0 0 [vA G s, vA G 3, vA G c] σ (fun y m => rOk s i (cOrd k r u) σ y m) := by
  have t1 := t.1.1
  have fs := isS_f hs
  -- a number
  have num : ∀ lo hi : Int, (rI lo ∧ rI hi) → (k = 15 ∨ k = 21) → cOrd k r u = cNum (r + 1) lo hi u → Run G WX M_X7_readNumber 3 0 0 [vA G s, vA G 3, vI lo, vI hi] σ (fun y m => (y = 0 ∨ y = 1) ∧ rOk s i (cOrd k r u) σ y m) := by
    intro lo hi hl q E
    rw [E]
    refine Run.mono (P_X7_readNumber (r + 1) hs h t1 hl hn) (fun y m e => ?_)
    obtain ⟨e1, e2, e3, e4⟩ := e
    refine ⟨by rw [e1]; exact kb_01 _, e1, e2, zT_W hs e3 (Or.inr rfl), fun yy => ?_⟩
    have n1 := nv_num (i := i + 1) yy (by omega)
    have e4 := e4 yy
    rw [vN_at (m := (cNum (r + 1) lo hi u).2) (i := i + 1) (show r + 1 = 2056 + (i + 1) by omega)] at e4
    have vi := n1.1 i (by omega)
    rw [vk] at vi
    exact ⟨fun x => by omega, fun x => by omega, fun _ => e4, fun x => by omega⟩
  have kite : k = 17 ∨ k = 18 ∨ k = 19 → Run G WX M_X7_readKite 6 0 0 [vA G s, vA G 3, vA G c] σ (fun y m => (y = 0 ∨ y = 1) ∧ rOk s i (cOrd k r u) σ y m) := by
    intro q
    have E : cOrd k r u = cKT (r + 1) u := by unfold cOrd; rw [if_neg (by omega), if_neg (by omega), if_pos q]
    rw [E]
    refine Run.mono (P_X7_readKite (r + 1) hs hc h t z hn) (fun y m e => ?_)
    obtain ⟨e1, e2, e3, e4⟩ := e
    refine ⟨by rw [e1]; exact kb_01 _, e1, e2, zT_W hs e3 (Or.inl rfl), fun yy => ?_⟩
    have n1 := nv_KT (i := i + 1) yy t (by omega)
    have e4 := e4 yy
    rw [vN_at (m := (cKT (r + 1) u).2) (i := i + 1) (show r + 1 = 2056 + (i + 1) by omega)] at e4
    have vi := n1.1 i (by omega)
    rw [vk] at vi
    exact ⟨fun x => by omega, fun _ => e4, fun x => by omega, fun x => by omega⟩
  have kd' : ∀ a b : Int, kKd k = a → (a = 1 → k = 15) ∧ (a = 2 → k = 16) ∧ (a = 3 → k = 17) ∧ (a = 4 → k = 18) ∧ (a = 5 → k = 19) ∧ (a = 6 → k = 20) ∧ (a = 7 → k = 21) ∧ ((a < 1 ∨ 7 < a) → k = 23) ∧ rI a := by
    intro a _ e
    have q : k = 15 ∨ k = 16 ∨ k = 17 ∨ k = 18 ∨ k = 19 ∨ k = 20 ∨ k = 21 ∨ k = 23 := by omega
    rcases q with q | q | q | q | q | q | q | q <;> subst q <;> subst e <;> decide
  obtain ⟨d1, d2, d3, d4, d5, d6, d7, d8, d9⟩ := kd' _ 0 rfl
  refine S_X7_readRest hs hc ⟨hn, ?_⟩
  rw [kd]
  refine ⟨d9, fun q => ?_, fun q => ?_, fun q => kite (by have := d3 q; omega), fun q => kite (by have := d4 q; omega), fun q => kite (by have := d5 q; omega), fun q => ?_, fun q => ?_, fun q => ?_⟩
  · have e := d1 q
    exact num 1 3 ⟨by decide, by decide⟩ (Or.inl e) (by unfold cOrd; rw [if_pos e])
  · have e := d2 q
    have E : cOrd k r u = cThen (cKT (r + 1) u) (cNum (r + 2) 1 4) := by unfold cOrd; rw [if_neg (by omega), if_pos e]
    rw [E]
    refine Run.mono (P_X7_readKite (r + 1) hs hc h t z hn) (fun r6 s7 x => ?_)
    obtain ⟨e1, e2, e3, e4⟩ := x
    have z7 := zT_W hs e3 (Or.inl rfl)
    refine ⟨r01 e1, fun q => ?_, fun q => ?_⟩
    · rw [cThen_f (no e1 q)]
      exact ⟨(kb_0 (fun z => z)).symm, e2, z7, fun z => z.elim⟩
    have yy := yes e1 q
    rw [cThen_t yy]
    have n1 := nv_KT (i := i + 1) yy t (by omega)
    have e4 := e4 yy
    rw [vN_at (m := (cKT (r + 1) u).2) (i := i + 1) (show r + 1 = 2056 + (i + 1) by omega)] at e4
    have t2 := (cKT_G t (to := r + 1) (by omega)).2.1 yy
    have l7 : s7 s 2 = σ s 2 := by rw [z7.1 s (by omega) (by omega) (by omega) (by omega)]
    generalize (cKT (r + 1) u).2 = w at *
    refine Run.mono (P_X7_readNumber (r + 2) hs e2 t2 ⟨by decide, by decide⟩ (by rw [l7]; exact hn)) (fun r9 s10 x => ?_)
    obtain ⟨g1, g2, g3, g4⟩ := x
    have fin : rOk s i (cNum (r + 2) 1 4 w) σ r9 s10 := by
      refine ⟨g1, g2, zT.trans hs (zT_W hs g3 (Or.inr rfl)) z7, fun y2 => ?_⟩
      have n2 := nv_num (i := i + 2) y2 (by omega)
      have g4 := g4 y2
      rw [vN_at (m := (cNum (r + 2) 1 4 w).2) (i := i + 2) (show r + 2 = 2056 + (i + 2) by omega), l7] at g4
      have vi : vN (cNum (r + 2) 1 4 w).2 i = 16 := by rw [n2.1 i (by omega), n1.1 i (by omega), vk]; exact e
      refine ⟨fun x => by omega, fun _ => ?_, fun x => by omega, fun _ => g4⟩
      rw [g3.1 _ (by omega) (by omega), e4, n2.1 _ (by omega)]
    refine ⟨r01 g1, fun q => ?_, fun q => ?_⟩
    · subst q; exact fin
    · have : r9 = 1 := by rw [g1, kb_1 (yes g1 q)]
      subst this; exact fin
  · have e := d6 q
    have E : cOrd k r u = cTest r u := by unfold cOrd; rw [if_neg (by omega), if_neg (by omega), if_neg (by omega), if_pos e]
    rw [E]
    refine Run.mono (P_X7_readTest hs hc far h t z hn hi hr) (fun y m x => ?_)
    obtain ⟨g1, g2, g3, g4⟩ := x
    refine ⟨by rw [g1]; exact kb_01 _, g1, g2, g3, fun yy => ?_⟩
    obtain ⟨q1, q2, q3⟩ := g4 yy
    have n := nv_test yy t hi hr
    exact ⟨fun _ => q1, fun _ => q2, fun x => by omega, fun x => q3 (by omega)⟩
  · have e := d7 q
    exact num 1 99 ⟨by decide, by decide⟩ (Or.inr e) (by unfold cOrd; rw [if_neg (by omega), if_neg (by omega), if_neg (by omega), if_neg (by omega), if_pos e])
  · have e := d8 q
    have E : cOrd k r u = (True, u) := by unfold cOrd; rw [if_neg (by omega), if_neg (by omega), if_neg (by omega), if_neg (by omega), if_neg (by omega)]
    rw [E]
    refine ⟨(kb_1 trivial).symm, h, zT.refl, fun _ => ?_⟩
    show lOk s (σ s 2) i (vN u) σ
    exact ⟨fun x => by omega, fun x => by omega, fun x => by omega, fun x => by omega⟩
