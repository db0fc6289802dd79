theorem P_X12_test {G : Kg} {σ : Kmem} {r : Int} (p : sk0 σ ∧ (2206 : Int) ≤ r ∧ (r : Int) ≤ 2560) : Run G WM M_X12_test 8 0 0 [vA G 0, vI r] σ (fun x s => x = kb ((cTest r σ).1) ∧ s = (cTest r σ).2) := by
  obtain ⟨h, hr⟩ := p
  have w26 := (tWi_ok (τ := σ)).1
  have h18 := h.1.1.2
  have e : cTest r σ = kif (tWi σ < 24) (False, tF σ 2) (kif (tWi σ = 25) (cOld 6 (σ 1 3) (r + 1) (tA (kup σ 1 r (2000 + tWi σ)))) (cThen (cKT (r + 1) (tA (kup σ 1 r (2000 + tWi σ)))) (cTe2 (tWi σ) r))) := rfl
  obtain ⟨u, f⟩ := test_u h hr
  have k := fT0_k f
  refine S_X12_test ⟨h.1.1.1, by constructor <;> omega, fun q => ⟨by omega, fun m6 e6 => ?_⟩, fun q => ?_⟩
  rotate_left
  · rw [e, kif_t q]; exact ⟨⟨h.1.1.1, by omega, by omega⟩, kbF, rfl⟩
  rw [kif_f (by omega), ← e6] at e
  rw [← e6] at u k
  have t6 : tx0 m6 := by rw [e6]; exact tok_x0 (tok_1 h.1.1.1)
  have g := cKT_G u (to := r + 1) (by omega)
  refine ⟨t6, fun q2 => ⟨⟨u.1, by omega, by omega, by omega, by omega⟩, fun y => ?_, fun n => ?_⟩, fun q2 => ?_⟩
  · rw [kif_f q2, cThen_t y] at e
    have t1 := g.2.1 y
    rw [e]
    have ne26 : tWi σ ≠ 26 → cTe2 (tWi σ) r (cKT (r + 1) (tA m6)).2 = kif (tS3 (cKT (r + 1) (tA m6)).2) (cNum (r + 2) 0 9999 (tA (kup (cKT (r + 1) (tA m6)).2 1 (r + 5) ((cKT (r + 1) (tA m6)).2 0 15)))) (False, tF (cKT (r + 1) (tA m6)).2 2) := fun z => kif_f z
    generalize (cKT (r + 1) (tA m6)).2 = w at *
    have tail : tS3 w → tWi σ ≠ 26 → (0 ≤ r + 5 ∧ r + 5 < 3598) ∧ ∀ m18 : Kmem, m18 = (kup w 1 (r + 5) (w 0 15)) → (tx0 m18) ∧ (tk1 (tA m18) ∧ ((0 : Int) ≤ (r + 2) ∧ ((r + 2) : Int) < 3598) ∧ rI (0) ∧ rI (9999)) ∧ (kb ((cNum ((r + 2)) (0) (9999) (tA m18)).1) = kb ((cTe2 (tWi σ) r w).1) ∧ (cNum ((r + 2)) (0) (9999) (tA m18)).2 = (cTe2 (tWi σ) r w).2) := by
      intro a b
      refine ⟨by omega, fun m18 e18 => ?_⟩
      have x := tk1_1 (j := r + 5) (y := w 0 15) t1
      rw [← e18] at x
      rw [ne26 b, kif_t a, e18]
      rw [e18] at x
      exact ⟨tok_x0 x.1, ⟨tA_k1 (tok_x0 x.1) x.2, by omega, by decide, by decide⟩, rfl, rfl⟩
    refine ⟨fun q3 => ⟨⟨t1.1, by decide⟩, fun s => tail (Or.inl s) q3, fun s1 => ⟨⟨t1.1, by decide⟩, fun s => tail (Or.inr (Or.inl s)) q3, fun s2 => ⟨⟨t1.1, by decide⟩, fun s => tail (Or.inr (Or.inr s)) q3, fun s3 => ⟨⟨t1.1, by have := t1.2; omega, by have := t1.2; omega⟩, ?_⟩⟩⟩⟩, fun q3 => ?_⟩
    · rw [ne26 q3, kif_f (fun z => z.elim s1 (fun z => z.elim s2 s3))]
      exact ⟨kbF, rfl⟩
    · have : cTe2 (tWi σ) r w = (True, w) := kif_t q3
      rw [this]; exact ⟨kbT, rfl⟩
  · rw [kif_f q2, cThen_f n] at e
    rw [e]; exact ⟨kbF, rfl⟩
  · rw [kif_t q2] at e
    rw [e, k.2]
    exact ⟨⟨u.1, by have := h.2.2; omega, by omega⟩, rfl, rfl⟩
