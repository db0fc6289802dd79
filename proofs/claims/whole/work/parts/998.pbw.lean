/-! Seasons: the state of a program that is being read, on both sides -/
noncomputable def cSb (τ : Kmem) : Prop × Kmem := kif (tWi τ < 15 ∨ 23 < tWi τ ∨ (tWi τ = 22 ∧ τ 0 22 = 0)) (False, tF τ 2) (kif (tWi τ ≠ 22 ∧ τ 0 23 = 30) (False, tF τ 6) (kif ((tWi τ = 20 ∨ tWi τ = 21) ∧ τ 0 22 = 3) (False, tF τ 7) (cThen (cOrd (tWi τ) (2206 + 6 * τ 1 2064) (tA (snL (tWi τ) τ))) (fun u => (True, sOpn (tWi τ) (τ 1 2064) u)))))
theorem cStep_sb {τ : Kmem} : cStep τ = cThen (cSb τ) (cSign 59) := by
  unfold cStep cSb
  by_cases a : tWi τ < 15 ∨ 23 < tWi τ ∨ (tWi τ = 22 ∧ τ 0 22 = 0)
  · rw [kif_t a, kif_t a, cThen_f (fun z => z)]
  rw [kif_f a, kif_f a]
  by_cases b : tWi τ ≠ 22 ∧ τ 0 23 = 30
  · rw [kif_t b, kif_t b, cThen_f (fun z => z)]
  rw [kif_f b, kif_f b]
  by_cases c : (tWi τ = 20 ∨ tWi τ = 21) ∧ τ 0 22 = 3
  · rw [kif_t c, kif_t c, cThen_f (fun z => z)]
  rw [kif_f c, kif_f c, cThen_as]
  congr 1
  funext u
  exact (cThen_t (r := (True, sOpn (tWi τ) (τ 1 2064) u)) trivial).symm
theorem tRs_0 {σ τ : Kmem} {j y : Int} (h : tRs σ τ) (hj : 18 < j) : tRs σ (kup τ 0 j y) := by
  have v : ∀ i, i ≠ j → (kup τ 0 j y) 0 i = τ 0 i := fun i hi => kup_j hi
  have o : (kup τ 0 j y) 7 = τ 7 := kup_o (by omega)
  have b : bA (kup τ 0 j y) = bA τ := by funext i; unfold bA; rw [v 11 (by omega), o]
  unfold tRs tRt at *
  rw [v 11 (by omega), v 12 (by omega), v 13 (by omega), v 14 (by omega), v 15 (by omega), v 17 (by omega), v 18 (by omega), o, b]
  exact h
theorem tRs_sO {σ u : Kmem} {k n : Int} (h : tRs σ u) : tRs σ (sOpn k n u) := by
  unfold sOpn
  split
  · exact tRs_0 (tRs_1 h (by omega)) (by omega)
  split
  · exact tRs_1 (tRs_1 (tRs_0 h (by omega)) (by omega)) (by omega)
  · exact h
theorem tRs_L {σ τ : Kmem} {k : Int} (h : tRs σ (tA τ)) : tRs σ (tA (snL k τ)) := by
  have f0 : ∀ j, j ≠ 23 → (snL k τ) 0 j = τ 0 j := fun j hj => by unfold snL; rw [kup_o (x := 0) (by omega), kst_ne (by omega), kup_j hj]
  have f7 : (snL k τ) 7 = τ 7 := by unfold snL; rw [kup_o (by omega), kst_ne (by omega), kup_o (by omega)]
  exact tRs_A (by funext i; unfold bA; rw [f0 11 (by omega), f7]) ⟨f0 14 (by omega), f0 11 (by omega), f0 17 (by omega), f0 18 (by omega)⟩ f7 h
/-- a line's partner is told: it is an end, or an opening that is closed -/
def zCl (w o : Int → Int) (d k : Int) : Prop := w (150 + 6 * k) = 22 ∨ (pOp (w (150 + 6 * k)) ∧ ∀ i, 0 ≤ i → i < d → o i ≠ k)
def zL1 (s : Int) (σ : Kmem) (w o : Int → Int) (d k : Int) : Prop := σ (s + 1) k = kKd (w (150 + 6 * k)) ∧ lOk s k (150 + 6 * k) w σ ∧ (zCl w o d k → σ (s + 5) k = w (150 + 6 * k + 4))
/-- the program so far: c steps, n lines, d of them open in o -/
def zP (s : Int) (σ : Kmem) (w o : Int → Int) (c n d : Int) : Prop := (σ s 1 = c ∧ σ s 2 = n ∧ σ s 9 = d) ∧ (∀ i, 0 ≤ i → i < d → σ (s + 6) i = o i) ∧ ∀ k, 0 ≤ k → k < n → zL1 s σ w o d k
theorem lOk_eq {s k i : Int} {w w' : Int → Int} {m m' : Kmem} (h : lOk s k i w m) (e : ∀ d, 0 ≤ d → d < 6 → d ≠ 4 → w' (i + d) = w (i + d)) (e2 : m' (s + 2) k = m (s + 2) k ∧ m' (s + 3) k = m (s + 3) k ∧ m' (s + 4) k = m (s + 4) k) : lOk s k i w' m' := by
  have e0 := e 0 (by omega) (by omega) (by omega)
  rw [Int.add_zero] at e0
  unfold lOk zTs at *
  rw [e0, e 1 (by omega) (by omega) (by omega), e 2 (by omega) (by omega) (by omega), e 5 (by omega) (by omega) (by omega), e2.1, e2.2.1, e2.2.2]
  exact h
