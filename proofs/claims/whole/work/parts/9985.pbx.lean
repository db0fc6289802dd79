/-- the memory behind a step's order, as far as the program goes -/
theorem step_u {τ : Kmem} (c : snI τ) (hk : 15 ≤ tWi τ ∧ tWi τ ≤ 23 ∧ (tWi τ = 22 → τ 0 22 ≠ 0)) (hc : tWi τ ≠ 22 → τ 0 23 ≠ 30) : (0 ≤ τ 1 2064 ∧ τ 1 2064 ≤ 59) ∧ sk0 (tA (snL (tWi τ) τ)) ∧ (vN (tA (snL (tWi τ) τ)) (150 + 6 * τ 1 2064) = tWi τ ∧ (tA (snL (tWi τ) τ)) 2 = τ 2 ∧ (tA (snL (tWi τ) τ)) 1 2 = τ 1 2 ∧ (tA (snL (tWi τ) τ)) 1 3 = τ 1 3) ∧ ((cOrd (tWi τ) (2206 + 6 * τ 1 2064) (tA (snL (tWi τ) τ))).1 → tk1 (cOrd (tWi τ) (2206 + 6 * τ 1 2064) (tA (snL (tWi τ) τ))).2 ∧ ((cOrd (tWi τ) (2206 + 6 * τ 1 2064) (tA (snL (tWi τ) τ))).2 0 22 = τ 0 22 ∧ (cOrd (tWi τ) (2206 + 6 * τ 1 2064) (tA (snL (tWi τ) τ))).2 0 23 = (τ 0 23 + if tWi τ = 22 then 0 else 1) ∧ (cOrd (tWi τ) (2206 + 6 * τ 1 2064) (tA (snL (tWi τ) τ))).2 8 = τ 8) ∧ vN (cOrd (tWi τ) (2206 + 6 * τ 1 2064) (tA (snL (tWi τ) τ))).2 8 = τ 1 2064 + 1 ∧ (∀ j, 150 ≤ j → j < 150 + 6 * τ 1 2064 → vN (cOrd (tWi τ) (2206 + 6 * τ 1 2064) (tA (snL (tWi τ) τ))).2 j = vN τ j) ∧ (tWi τ ≠ 20 → vN (cOrd (tWi τ) (2206 + 6 * τ 1 2064) (tA (snL (tWi τ) τ))).2 (150 + 6 * τ 1 2064) = tWi τ) ∧ (tWi τ = 20 → 2024 ≤ vN (cOrd (tWi τ) (2206 + 6 * τ 1 2064) (tA (snL (tWi τ) τ))).2 (150 + 6 * τ 1 2064))) := by
  obtain ⟨s, ⟨⟨n0, cn⟩, cd, cc⟩, pi⟩ := c
  have n59 : τ 1 2064 ≤ 59 := by omega
  have L := snL_v (k := tWi τ) (τ := τ) ⟨n0, n59⟩
  have Lk := snL_k (k := tWi τ) s ⟨n0, n59⟩
  have fL : fS (tA (snL (tWi τ) τ)) τ := (fS_0 fT0_tA).trans L.2.2.2
  have cap : ∀ j, j = 22 ∨ j = 23 → tA (snL (tWi τ) τ) 0 j = snL (tWi τ) τ 0 j := fun j hj => by rw [tA_fr.2 j (by omega)]
  have c8 : tA (snL (tWi τ) τ) 8 = snL (tWi τ) τ 8 := tA_fr.1 8 (by omega)
  have O := cOrd_G (k := tWi τ) (r := 2206 + 6 * τ 1 2064) Lk (by omega)
  have vk : vN (tA (snL (tWi τ) τ)) (150 + 6 * τ 1 2064) = tWi τ := by rw [nv_tA]; exact L.2.1.1
  refine ⟨⟨n0, n59⟩, Lk, ⟨vk, by rw [tA_fr.1 2 (by omega)]; exact snL_2, fL.2.2.1 2 (by omega), fL.2.2.1 3 (by omega)⟩, fun y1 => ?_⟩
  have V := nv_ord (i := 150 + 6 * τ 1 2064) y1 Lk (by omega) (by omega) ⟨hk.1, hk.2.1⟩ vk
  rw [nv_tA] at V
  refine ⟨O.2.1 y1, ⟨?_, ?_, ?_⟩, ?_, fun j a b => ?_, V.2.2.1, V.2.2.2.1⟩
  · rw [O.1.2.1 22 (by omega), cap 22 (by omega)]; exact L.1.2.2.1
  · rw [O.1.2.1 23 (by omega), cap 23 (by omega)]; exact L.1.2.1
  · rw [O.1.1 8 (by omega) (by omega) (by omega), c8]; exact L.1.2.2.2
  · rw [V.1 8 (by omega)]; exact L.1.1
  · rw [V.1 j (by omega), L.2.2.1 j (by omega) (by omega)]
