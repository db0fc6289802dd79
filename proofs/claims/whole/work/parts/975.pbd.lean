/-! Scanner: the next token, and what is taken -/
theorem P_X6_next {G : Kg} {σ τ : Kmem} (h : tRt σ τ) (tx : tx0 τ) (h4 : σ 3 4 = τ 0 14) (hf : σ 3 8 = τ 0 18 ∧ σ 3 9 = τ 0 17) : Run G WX M_X6_next 1 0 0 [vA G 3] σ (fun y t => y = 0 ∧ tRs t (tA τ) ∧ kS jN t σ) := by
  have s := tS_ok tx
  obtain ⟨s1, s2, s3⟩ := s
  have e := tE_ok tx
  have t14 := tx.2
  have t11 := tx.1.1
  have fin : ∀ t : Kmem, kS jN t σ → t 3 2 = tK τ → t 3 3 = tS τ → t 3 4 = tE τ → (tK τ = 3 → t 3 5 = tV τ) → (tK τ = 2 → t 3 6 = n32 (bA τ) (tS τ) (tE τ - tS τ).toNat) → (0 : Int) = 0 ∧ tRs t (tA τ) ∧ kS jN t σ := by
    intro t k k2 k3 k4 k5 k6
    have v := tA_v (τ := τ)
    have f := tA_fr (τ := τ)
    have b : bA (tA τ) = bA τ := by funext i; exact tFr_b f i
    refine ⟨rfl, ⟨?_, ?_, ?_, ?_, ?_⟩, k⟩
    · unfold tRt; rw [f.2 11 (by omega), f.1 7 (by omega), k.2 1 (by omega), k.1 4 (by omega)]; exact h
    · rw [v.2.2.2, v.1, v.2.2.1]; exact ⟨k2, k3, k4⟩
    · rw [f.2 18 (by omega), f.2 17 (by omega), k.2 8 (by omega), k.2 9 (by omega)]; exact hf
    · rw [v.2.2.2, v.2.1]; exact k5
    · rw [v.2.2.2, v.1, v.2.2.1, b]; exact k6
  have s60 : ∀ t : Kmem, kS jN t σ → t 3 3 = tS τ → E_X6_next_60 G t (fun y t => y = 0 ∧ tRs t (tA τ) ∧ kS jN t σ) := by
    intro t k k3
    have v3 : (kup t 3 4 (t 3 3)) 3 3 = tS τ := by rw [kup_j (by omega)]; exact k3
    have v4 : (kup t 3 4 (t 3 3)) 3 4 = tS τ := by rw [kup_at]; exact k3
    have v1 : (kup t 3 4 (t 3 3)) 3 1 = τ 0 11 := by rw [kup_j (by omega), k.2 1 (by omega)]; exact h.1
    have c4 : (kup t 3 4 (t 3 3)) 4 = σ 4 := by rw [kup_o (by omega)]; exact k.1 4 (by omega)
    have kk : kS jN (kup t 3 4 (t 3 3)) σ := (kS_up (by omega)).trans k
    have ht : tRt (kup t 3 4 (t 3 3)) τ := by unfold tRt; rw [v1, c4]; exact ⟨rfl, h.2⟩
    refine S_X6_next_60 ?_
    rw [v3, v1, c4]
    generalize kup t 3 4 (t 3 3) = m at *
    refine ⟨by constructor <;> omega, by constructor <;> omega, fun q => ?_, fun q => ?_⟩
    rotate_left
    · have b : bA τ (tS τ) = -1 := kif_f (by omega)
      have eK : tK τ = 0 := kif_t b
      have eE : tE τ = tS τ := kif_t b
      exact fin _ ((kS_up (by omega)).trans kk) (by rw [kup_at, eK]) (by rw [kup_j (by omega)]; exact v3) (by rw [kup_j (by omega), eE]; exact v4) (fun z => by omega) (fun z => by omega)
    have b4 := tRt_b h tx.1 (i := tS τ) (by omega) (by rw [h.1]; omega)
    have nb : bA τ (tS τ) ≠ -1 := by omega
    -- a sign, or what is none
    have other : ¬ cSm (bA τ (tS τ)) → ¬ cDg (bA τ (tS τ)) → (0 ≤ m 3 3 ∧ m 3 3 < 900) ∧ (rI ((m 4 (m 3 3)))) ∧ ((¬ (cSi ((m 4 (m 3 3)))) → ((0 : Int) = 0 ∧ tRs (kup (kup m 3 2 1) 3 4 (((kup m 3 2 1) 3 3) + 1)) (tA τ) ∧ kS jN (kup (kup m 3 2 1) 3 4 (((kup m 3 2 1) 3 3) + 1)) σ)) ∧ ((cSi ((m 4 (m 3 3)))) → ((0 : Int) = 0 ∧ tRs (kup (kup m 3 2 4) 3 4 (((kup m 3 2 4) 3 3) + 1)) (tA τ) ∧ kS jN (kup (kup m 3 2 4) 3 4 (((kup m 3 2 4) 3 3) + 1)) σ))) := by
      intro n1 n2
      rw [v3, c4]
      have eE : tE τ = tS τ + 1 := by unfold tE; rw [kif_f nb, kif_f n1, kif_f n2]
      have eK : tK τ = kif (cSi (bA τ (tS τ))) 4 1 := by unfold tK; rw [kif_f nb, kif_f n1, kif_f n2]
      refine ⟨by omega, by constructor <;> omega, fun z => ?_, fun z => ?_⟩
      · rw [kif_f (by omega)] at eK
        refine fin _ ((kS_up (by omega)).trans ((kS_up (by omega)).trans kk)) (by rw [kup_j (by omega), kup_at, eK]) (by rw [kup_j (by omega), kup_j (by omega)]; exact v3) (by rw [kup_at, kup_j (by omega), v3, eE]) (fun z => by omega) (fun z => by omega)
      · rw [kif_t (by omega)] at eK
        refine fin _ ((kS_up (by omega)).trans ((kS_up (by omega)).trans kk)) (by rw [kup_j (by omega), kup_at, eK]) (by rw [kup_j (by omega), kup_j (by omega)]; exact v3) (by rw [kup_at, kup_j (by omega), v3, eE]) (fun z => by omega) (fun z => by omega)
    have s122 : ¬ cSm (bA τ (tS τ)) → E_X6_next_122 G m (fun y t => y = 0 ∧ tRs t (tA τ) ∧ kS jN t σ) := by
      intro n1
      refine S_X6_next_122 ⟨by rw [v3]; omega, by rw [v3, c4]; constructor <;> omega, fun q1 => other n1 (by rw [v3, c4] at q1; omega), fun q1 => ⟨by rw [v3]; omega, fun q2 => other n1 (by rw [v3, c4] at q2; omega), fun q2 => ?_⟩⟩
      rw [v3, c4] at q1 q2
      refine Run.mono (P_X6_nextNumber ht tx v3 v4 (by omega)) (fun r t' x => ?_)
      obtain ⟨-, x1, x2, x3, x4, x5, x6⟩ := x
      exact fin _ (x1.trans kk) x2 x3 x4 x5 (fun z => absurd z x6)
    refine ⟨by omega, by constructor <;> omega, fun q1 => s122 (by omega), fun q1 => ⟨by omega, fun q2 => s122 (by omega), fun q2 => ?_⟩⟩
    have sm : cSm (bA τ (tS τ)) := by omega
    have eK : tK τ = 2 := by unfold tK; rw [kif_f nb, kif_t sm]
    refine Run.mono (P_X6_nextWord ht tx v3 v4 sm) (fun r t' x => ?_)
    obtain ⟨-, x1, x2, x3, x4, x5⟩ := x
    exact fin _ (x1.trans kk) (x2.trans eK.symm) x3 x4 (fun z => by omega) (fun _ => x5)
  have lp : ∀ (n : Nat) (t : Kmem), τ 0 11 - t 3 3 < n → kS jN t σ → (τ 0 14 ≤ t 3 3 ∧ t 3 3 ≤ τ 0 11) → (∀ i, τ 0 14 ≤ i → i < t 3 3 → cBl (bA τ i)) → E_X6_next_8 G t (fun y t => y = 0 ∧ tRs t (tA τ) ∧ kS jN t σ) := by
    intro n
    induction n with
    | zero => intro t a k b g; omega
    | succ n ih =>
      intro t a k b g
      have t31 : t 3 1 = τ 0 11 := (k.2 1 (by omega)).trans h.1
      have t4 : t 4 = σ 4 := k.1 4 (by omega)
      have stop : ¬ cBl (bA τ (t 3 3)) → t 3 3 = tS τ := by
        intro q
        by_cases x : t 3 3 < tS τ
        · exact absurd (s3 _ b.1 x) q
        · by_cases y : tS τ < t 3 3
          · exact absurd (g _ s1.1 y) s2
          · omega
      refine S_X6_next_8 ⟨by constructor <;> omega, by rw [t31]; constructor <;> omega, fun q => s60 t k (stop ?_), fun q => ?_⟩
      · have : bA τ (t 3 3) = -1 := kif_f (by omega)
        rw [this]; omega
      have b4 := tRt_b h tx.1 (i := t 3 3) (by omega) (by rw [h.1]; omega)
      rw [t4]
      have v3 : (kup t 3 3 (t 3 3 + 1)) 3 3 = t 3 3 + 1 := kup_at
      have again : cBl (bA τ (t 3 3)) → E_X6_next_8 G (kup t 3 3 (t 3 3 + 1)) (fun y t => y = 0 ∧ tRs t (tA τ) ∧ kS jN t σ) := fun bl => by
        refine ih _ (by rw [v3]; omega) ((kS_up (by omega)).trans k) (by rw [v3]; omega) (fun i i1 i2 => ?_)
        rw [v3] at i2
        by_cases y : i = t 3 3
        · rw [y]; exact bl
        · exact g i i1 (by omega)
      exact ⟨by omega, by constructor <;> omega, fun q2 => again (by omega), fun q2 => ⟨by omega, fun q3 => s60 t k (stop (by omega)), fun q3 => again (by omega)⟩⟩
  refine S_X6_next (lp ((τ 0 11 - τ 0 14).toNat + 1) _ ?_ (kS_up (by omega)) ?_ ?_)
  · rw [kup_at, h4]; omega
  · rw [kup_at, h4]; omega
  · rw [kup_at, h4]; intro i a b; omega
theorem P_X6_next' {G : Kg} {σ τ : Kmem} (h : tRs σ τ) (t : tok τ) : Run G WX M_X6_next 1 0 0 [vA G 3] σ (fun y t => y = 0 ∧ tRs t (tA τ) ∧ kS jN t σ) := P_X6_next h.1 (tok_x0 t) h.2.1.2.2 h.2.2.1
