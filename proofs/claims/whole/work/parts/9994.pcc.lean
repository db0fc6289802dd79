theorem P_X7_readAll {G : Kg} {σ u : Kmem} {s c : Int} (hs : isS s) (hc : isC c) (far : c + 26 ≤ s ∨ s + 7 ≤ c) (h : tRs σ u) (ci : snI (sS0 u)) (nz : nmZ σ c u) (h11 : u 0 11 ≤ 300) : Run G WX M_X7_readAll 9 0 0 [vA G s, vA G 3, vA G c] σ (fun y t => rSea s (cSea 902 (sS0 u)) σ y t) := by
  have fs := isS_f hs
  have c13 := ci.1.1.1.1.2.1
  have s0 : ∀ j, j ≠ 22 → j ≠ 23 → sS0 u 0 j = u 0 j := fun j a b => by unfold sS0; rw [kup_j b, kup_j a, kup_x (by omega)]
  have s1 : ∀ j, j ≠ 2064 → sS0 u 1 j = u 1 j := fun j a => by unfold sS0; rw [kup_x (by omega), kup_x (by omega), kup_j a]
  have s2 : sS0 u 2 = u 2 := by unfold sS0; rw [kup_o (by omega), kup_o (by omega), kup_o (by omega)]
  have sn : sS0 u 1 2064 = 0 := by unfold sS0; rw [kup_x (by omega), kup_x (by omega), kup_at]
  have sd : sS0 u 0 22 = 0 := by unfold sS0; rw [kup_j (by omega), kup_at]
  have sc : sS0 u 0 23 = 0 := by unfold sS0; rw [kup_at]
  refine S_X7_readAll hs hc (Run.mono (P_X7_clear hs) (fun r m e => ?_))
  obtain ⟨-, e1, e2, e3, e4, e5⟩ := e
  have fr : ∀ x, x ≠ s → m x = σ x := fun x hx => e1 x hx
  have fc : c ≠ 3 ∧ 5 ≤ c := by rcases hc with e | e | e | e | e <;> subst e <;> decide
  have hr : tRs m u := by
    unfold tRs tRt at *
    rw [fr 3 (by omega), fr 4 (by omega)]; exact h
  refine seaAll hs hc far 902 0 m (sS0 u) (tRs_0 (tRs_0 (tRs_1 hr (by omega)) (by omega)) (by omega)) ?_ ci ?_ (by omega) ⟨by omega, c13.1⟩ (by rw [s0 11 (by omega) (by omega)]; exact h11) (fun x hx => fr x (by omega))
  · rw [sn, sd, sc]
    exact ⟨⟨e3, e4, e5⟩, fun i a b => by omega, fun k a b => by omega⟩
  · have k2 := ci.1.2.1
    have k3 := ci.1.2.2
    rw [s1 2 (by omega)] at k2
    rw [s1 3 (by omega)] at k3
    have ec : ∀ x, c ≤ x → x < c + 26 → m x = σ x := fun x a b => fr x (by omega)
    obtain ⟨⟨a1, a2⟩, b1, b2⟩ := nz
    unfold nmZ
    rw [s1 2 (by omega), s1 3 (by omega), s2, ec c (by omega) (by omega)]
    exact ⟨⟨a1, fun i p q => by rw [ec _ (by omega) (by omega)]; exact a2 i p q⟩, b1, fun i p q => by rw [ec _ (by omega) (by omega)]; exact b2 i p q⟩
