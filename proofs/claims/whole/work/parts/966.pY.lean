theorem P_X12_seasonOrder {G : Kg} {σ : Kmem} {k r : Int} (p : sk0 σ ∧ rI k ∧ (2206 : Int) ≤ r ∧ (r : Int) ≤ 2560) : Run G WM M_X12_seasonOrder 9 0 0 [vA G 0, vI k, vI r] σ (fun x s => x = kb ((cOrd k r σ).1) ∧ s = (cOrd k r σ).2) := by
  obtain ⟨h, hk, hr⟩ := p
  have kt : tk3 σ ∧ (0 : Int) ≤ σ 1 2 ∧ (σ 1 2 : Int) ≤ 6 ∧ (2056 : Int) ≤ (r + 1) ∧ ((r + 1) : Int) < 2570 := ⟨h.1, h.2.1.1, h.2.1.2, by omega, by omega⟩
  have three : k = 17 ∨ k = 18 ∨ k = 19 → (kb ((cKT (r + 1) σ).1) = kb ((cOrd k r σ).1) ∧ (cKT (r + 1) σ).2 = (cOrd k r σ).2) := fun q => by
    have e : cOrd k r σ = cKT (r + 1) σ := by unfold cOrd; rw [if_neg (by omega), if_neg (by omega), if_pos q]
    rw [e]; exact ⟨rfl, rfl⟩
  refine S_X12_seasonOrder ⟨hk, fun q => ?_, fun q => ?_, fun q => ⟨kt, three (by omega)⟩, fun q => ⟨kt, three (by omega)⟩, fun q => ⟨kt, three (by omega)⟩, fun q => ?_, fun q => ?_, fun q => ?_⟩
  · have e : cOrd k r σ = cNum (r + 1) 1 3 σ := by unfold cOrd; rw [if_pos q]
    rw [e]; exact ⟨⟨h.1.1, by omega, by decide, by decide⟩, rfl, rfl⟩
  · have e : cOrd k r σ = cThen (cKT (r + 1) σ) (cNum (r + 2) 1 4) := by unfold cOrd; rw [if_neg (by omega), if_pos q]
    rw [e]
    have g := cKT_G h (to := r + 1) (by omega)
    refine ⟨kt, fun n => ?_, fun y => ?_⟩
    · rw [cThen_f n]; exact ⟨kbF, rfl⟩
    · rw [cThen_t y]
      exact ⟨⟨g.2.1 y, by omega, by decide, by decide⟩, fun n => ⟨kbN n, rfl⟩, fun y2 => ⟨kbY y2, rfl⟩⟩
  · have e : cOrd k r σ = cTest r σ := by unfold cOrd; rw [if_neg (by omega), if_neg (by omega), if_neg (by omega), if_pos q]
    rw [e]; exact ⟨⟨h, hr⟩, rfl, rfl⟩
  · have e : cOrd k r σ = cNum (r + 1) 1 99 σ := by unfold cOrd; rw [if_neg (by omega), if_neg (by omega), if_neg (by omega), if_neg (by omega), if_pos q]
    rw [e]; exact ⟨⟨h.1.1, by omega, by decide, by decide⟩, rfl, rfl⟩
  · have e : cOrd k r σ = (True, σ) := by unfold cOrd; rw [if_neg (by omega), if_neg (by omega), if_neg (by omega), if_neg (by omega), if_neg (by omega)]
    rw [e]; exact ⟨kbT, rfl⟩
