/-! Seasons.readAll(Scanner, County)Z -/
theorem cSb_tk {τ : Kmem} (c : snI τ) : ((cSb τ).1 → tk1 (cSb τ).2) ∧ (¬ (cSb τ).1 → 1 ≤ (cSb τ).2 0 18 ∧ (cSb τ).2 0 18 ≤ 9) := by
  have t1 := c.1.1.1
  obtain ⟨⟨n0, cn⟩, cd, cc⟩ := c.2.1
  have fl : ∀ k, 1 ≤ k ∧ k ≤ 9 → 1 ≤ tF τ k 0 18 ∧ tF τ k 0 18 ≤ 9 := fun k hk => ((cG_fail t1 hk).2.2.1 (fun z => z)).1
  unfold cSb
  by_cases a : tWi τ < 15 ∨ 23 < tWi τ ∨ (tWi τ = 22 ∧ τ 0 22 = 0)
  · rw [kif_t a]; exact ⟨fun z => z.elim, fun _ => fl 2 (by omega)⟩
  rw [kif_f a]
  by_cases b : tWi τ ≠ 22 ∧ τ 0 23 = 30
  · rw [kif_t b]; exact ⟨fun z => z.elim, fun _ => fl 6 (by omega)⟩
  rw [kif_f b]
  by_cases d : (tWi τ = 20 ∨ tWi τ = 21) ∧ τ 0 22 = 3
  · rw [kif_t d]; exact ⟨fun z => z.elim, fun _ => fl 7 (by omega)⟩
  rw [kif_f d]
  obtain ⟨⟨-, n59⟩, Uk, -, -⟩ := step_u c (by omega) (by omega)
  have O := cOrd_G (k := tWi τ) (r := 2206 + 6 * τ 1 2064) Uk (by omega)
  by_cases y : (cOrd (tWi τ) (2206 + 6 * τ 1 2064) (tA (snL (tWi τ) τ))).1
  · rw [cThen_t y]; exact ⟨fun _ => sOpn_tk (O.2.1 y), fun z => absurd trivial z⟩
  · rw [cThen_f y]; exact ⟨fun z => z.elim, fun _ => (O.2.2.1 y).1⟩
/-- what comes of the reading -/
def rSea (s : Int) (u σ : Kmem) (y : Int) (m : Kmem) : Prop := ((tSf u) 0 18 = 0 → y = 1 ∧ m s 0 = 1 ∧ zP s m (vN u) (u 8) (u 0 23) (u 1 2064) 0) ∧ ((tSf u) 0 18 ≠ 0 → y = 0) ∧ tRs m (tSf u) ∧ kfm (aS s) m σ
