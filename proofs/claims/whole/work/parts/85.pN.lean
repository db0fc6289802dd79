/-! texts: the reference's tokens -/
theorem ahead_small {G : Kg} {τ : Kmem} {Q : Int → Kmem → Prop} (h : tx0 τ) (hs : cSm (bA τ (tS τ))) (hQ : Q 0 (tA τ)) : ∀ (n : Nat) (m : Kmem), tFr m τ → m 0 13 = tS τ → m 0 15 = tV τ → (tS τ ≤ m 0 14 ∧ m 0 14 ≤ τ 0 11) → τ 0 11 - m 0 14 < n → (∀ i, tS τ ≤ i → i < m 0 14 → cSm (bA τ i)) → E_X12_ahead_81 G m Q := by
  have h1 := h.1.1
  have s := tS_ok h
  have ne : bA τ (tS τ) ≠ -1 := by omega
  have hE : tE τ = kwh (fun i => cSm (bA τ i)) 1000 (tS τ) := by unfold tE; rw [kif_f ne, kif_t hs]
  have hK : tK τ = 2 := by unfold tK; rw [kif_f ne, kif_t hs]
  intro n
  induction n with
  | zero => intro m f h13 h15 h14 hn; omega
  | succ n ih =>
    intro m f h13 h15 h14 hn hin
    have b := tFr_b f
    have br := bA_r (τ := τ) (k := m 0 14)
    refine S_X12_ahead_81 ⟨⟨tFr_x f h.1, by omega, by omega⟩, by rw [b]; omega, fun no m2 e2 => ?_, fun yes m2 e2 => ?_⟩
    · rw [b] at no
      have eE : tE τ = m 0 14 := by
        rw [hE]; exact kwh_is no 1000 (tS τ) h14.1 (by omega) hin
      have : m2 = tA τ := by
        rw [e2]
        refine tA_is ((tFr_up (by omega)).trans f) ?_ ?_ ?_ ?_
        · rw [kup_j (by omega)]; exact h13
        · rw [kup_j (by omega)]; exact h15
        · rw [kup_j (by omega)]; exact eE.symm
        · rw [kup_at]; exact hK.symm
      rw [this]; exact hQ
    · rw [b] at yes
      have lt := bA_in (τ := τ) (k := m 0 14) (by omega)
      refine ih m2 ?_ ?_ ?_ ?_ ?_ (fun i a c => ?_)
      · rw [e2]; exact (tFr_up (by omega)).trans f
      · rw [e2, kup_j (by omega)]; exact h13
      · rw [e2, kup_j (by omega)]; exact h15
      · rw [e2, kup_at]; omega
      · rw [e2, kup_at]; omega
      · rw [e2, kup_at] at c
        by_cases z : i = m 0 14
        · rw [z]; exact yes
        · exact hin i a (by omega)
theorem ahead_digit {G : Kg} {τ : Kmem} {Q : Int → Kmem → Prop} (h : tx0 τ) (hs : cDg (bA τ (tS τ))) (hQ : Q 0 (tA τ)) : ∀ (n : Nat) (m : Kmem), tFr m τ → m 0 13 = tS τ → m 0 15 = nVa (bA τ) (tS τ) (m 0 14 - tS τ).toNat → (tS τ ≤ m 0 14 ∧ m 0 14 ≤ τ 0 11) → τ 0 11 - m 0 14 < n → (∀ i, tS τ ≤ i → i < m 0 14 → cDg (bA τ i)) → E_X12_ahead_128 G m Q := by
  have h1 := h.1.1
  have s := tS_ok h
  have ne : bA τ (tS τ) ≠ -1 := by omega
  have ns : ¬ cSm (bA τ (tS τ)) := by omega
  have hE : tE τ = kwh (fun i => cDg (bA τ i)) 1000 (tS τ) := by unfold tE; rw [kif_f ne, kif_f ns, kif_t hs]
  have hK : tK τ = kif (tE τ - tS τ ≤ 4) 3 1 := by unfold tK; rw [kif_f ne, kif_f ns, kif_t hs]
  have hV : tV τ = nVa (bA τ) (tS τ) (tE τ - tS τ).toNat := kif_t hs
  intro n
  induction n with
  | zero => intro m f h13 h15 h14 hn; omega
  | succ n ih =>
    intro m f h13 h15 h14 hn hin
    have b := tFr_b f
    have br := bA_r (τ := τ) (k := m 0 14)
    have nr := nVa_r (b := bA τ) (s := tS τ) (m 0 14 - tS τ).toNat (fun i hi => hin _ (by omega) (by omega))
    refine S_X12_ahead_128 ⟨⟨tFr_x f h.1, by omega, by omega⟩, by rw [b]; omega, fun no => ⟨by omega, ?_, ?_⟩, fun yes => ⟨⟨tFr_x f h.1, by omega, by omega⟩, ⟨by decide, by rw [b]; omega⟩, fun m1 e1 m2 e2 => ?_⟩⟩
    · intro le m2 e2
      rw [b] at no
      have eE : tE τ = m 0 14 := by rw [hE]; exact kwh_is no 1000 (tS τ) h14.1 (by omega) hin
      have : m2 = tA τ := by
        rw [e2]
        refine tA_is ((tFr_up (by omega)).trans f) ?_ ?_ ?_ ?_
        · rw [kup_j (by omega)]; exact h13
        · rw [kup_j (by omega), hV, eE]; exact h15
        · rw [kup_j (by omega)]; exact eE.symm
        · rw [kup_at, hK, kif_t (by omega)]
      rw [this]; exact hQ
    · intro gt m2 e2
      rw [b] at no
      have eE : tE τ = m 0 14 := by rw [hE]; exact kwh_is no 1000 (tS τ) h14.1 (by omega) hin
      have : m2 = tA τ := by
        rw [e2]
        refine tA_is ((tFr_up (by omega)).trans f) ?_ ?_ ?_ ?_
        · rw [kup_j (by omega)]; exact h13
        · rw [kup_j (by omega), hV, eE]; exact h15
        · rw [kup_j (by omega)]; exact eE.symm
        · rw [kup_at, hK, kif_f (by omega)]
      rw [this]; exact hQ
    · rw [b] at yes
      have lt := bA_in (τ := τ) (k := m 0 14) (by omega)
      have e14 : m2 0 14 = m 0 14 + 1 := by rw [e2, kup_at, e1, kup_j (by omega)]
      refine ih m2 ?_ ?_ ?_ ?_ ?_ (fun i a c => ?_)
      · rw [e2, e1]; exact (tFr_up (by omega)).trans ((tFr_up (by omega)).trans f)
      · rw [e2, kup_j (by omega), e1, kup_j (by omega)]; exact h13
      · rw [e14, e2, kup_j (by omega), e1, kup_at, b, h15]
        rw [show (m 0 14 + 1 - tS τ).toNat = (m 0 14 - tS τ).toNat + 1 by omega, nVa]
        rw [show tS τ + (((m 0 14 - tS τ).toNat : Nat) : Int) = m 0 14 by omega]
      · rw [e14]; omega
      · rw [e14]; omega
      · rw [e14] at c
        by_cases z : i = m 0 14
        · rw [z]; exact yes
        · exact hin i a (by omega)
theorem ahead_blank {G : Kg} {τ : Kmem} {Q : Int → Kmem → Prop} (h : tx0 τ) (hQ : Q 0 (tA τ)) : ∀ (n : Nat) (m : Kmem), tFr m τ → (τ 0 14 ≤ m 0 14 ∧ m 0 14 ≤ τ 0 11) → τ 0 11 - m 0 14 < n → (∀ i, τ 0 14 ≤ i → i < m 0 14 → cBl (bA τ i)) → E_X12_ahead_0 G m Q := by
  have h1 := h.1.1
  intro n
  induction n with
  | zero => intro m f h14 hn; omega
  | succ n ih =>
    intro m f h14 hn hin
    have b := tFr_b f
    have br := bA_r (τ := τ) (k := m 0 14)
    have step : ∀ m2 : Kmem, m2 = kup m 0 14 (m 0 14 + 1) → cBl (bA τ (m 0 14)) → E_X12_ahead_0 G m2 Q := by
      intro m2 e2 c
      have lt := bA_in (τ := τ) (k := m 0 14) (by omega)
      refine ih m2 ?_ ?_ ?_ (fun i a c2 => ?_)
      · rw [e2]; exact (tFr_up (by omega)).trans f
      · rw [e2, kup_at]; omega
      · rw [e2, kup_at]; omega
      · rw [e2, kup_at] at c2
        by_cases z : i = m 0 14
        · rw [z]; exact c
        · exact hin i a (by omega)
    refine S_X12_ahead_0 ⟨⟨tFr_x f h.1, by omega, by omega⟩, by rw [b]; omega, fun e m2 e2 => step m2 e2 (by rw [b] at e; exact Or.inl e), fun n32 => ⟨⟨tFr_x f h.1, by omega, by omega⟩, fun n10 m3 e3 => ?_, fun e m2 e2 => step m2 e2 (by rw [b] at e; exact Or.inr e)⟩⟩
    rw [b] at n32 n10
    have eS : tS τ = m 0 14 := kwh_is (fun c => c.elim n32 n10) 1000 (τ 0 14) h14.1 (by omega) hin
    have f3 : tFr m3 τ := by rw [e3]; exact (tFr_up (by omega)).trans f
    have h314 : m3 0 14 = tS τ := by rw [e3, kup_j (by omega)]; exact eS.symm
    have h313 : m3 0 13 = tS τ := by rw [e3, kup_at]; exact eS.symm
    have b3 := tFr_b f3
    have s := tS_ok h
    have br := bA_r (τ := τ) (k := tS τ)
    refine ⟨⟨tFr_x f3 h.1, by omega, by omega⟩, fun m4 e4 => ?_⟩
    rw [h314, b3] at e4
    rw [h314, b3]
    have f4 : tFr m4 τ := by rw [e4]; exact (tFr_up (by omega)).trans f3
    have h413 : m4 0 13 = tS τ := by rw [e4, kup_j (by omega)]; exact h313
    have h414 : m4 0 14 = tS τ := by rw [e4, kup_j (by omega)]; exact h314
    have h415 : m4 0 15 = bA τ (tS τ) := by rw [e4, kup_at]
    have sign : ∀ k, tE τ = tS τ + 1 → tV τ = bA τ (tS τ) → tK τ = k → ∀ m5 : Kmem, m5 = kup m4 0 14 (m4 0 14 + 1) → ∀ m6 : Kmem, m6 = kup m5 0 12 k → Q 0 m6 := by
      intro k hE hV hK m5 e5 m6 e6
      have : m6 = tA τ := by
        rw [e6, e5]
        refine tA_is ((tFr_up (by omega)).trans ((tFr_up (by omega)).trans f4)) ?_ ?_ ?_ ?_
        · rw [kup_j (by omega), kup_j (by omega)]; exact h413
        · rw [kup_j (by omega), kup_j (by omega), hV]; exact h415
        · rw [kup_j (by omega), kup_at, h414]; exact hE.symm
        · rw [kup_at]; exact hK.symm
      rw [this]; exact hQ
    refine ⟨by omega, fun ne => ⟨by omega, fun ns => ⟨by omega, fun nd m5 e5 => ?_, fun dg m5 e5 => ?_⟩, fun sm => ?_⟩, fun en m5 e5 => ?_⟩
    · have hE : tE τ = tS τ + 1 := by unfold tE; rw [kif_f ne, kif_f ns, kif_f nd]
      have hV : tV τ = bA τ (tS τ) := kif_f nd
      have hK : tK τ = kif (cSi (bA τ (tS τ))) 4 1 := by unfold tK; rw [kif_f ne, kif_f ns, kif_f nd]
      have y4 : cSi (bA τ (tS τ)) → tK τ = 4 := fun c => by rw [hK, kif_t c]
      refine ⟨fun c => sign 4 hE hV (y4 (by omega)) m5 e5, fun c1 => ⟨fun c => sign 4 hE hV (y4 (by omega)) m5 e5, fun c2 => ⟨fun c => sign 4 hE hV (y4 (by omega)) m5 e5, fun c3 => ⟨fun c4 => sign 1 hE hV (by rw [hK, kif_f (by omega)]) m5 e5, fun c => sign 4 hE hV (y4 (by omega)) m5 e5⟩⟩⟩⟩
    · refine ahead_digit h dg hQ 1000 m5 ?_ ?_ ?_ ?_ ?_ (fun i a c => ?_)
      · rw [e5]; exact (tFr_up (by omega)).trans f4
      · rw [e5, kup_j (by omega)]; exact h413
      · rw [e5, kup_at, kup_j (by omega), h414, show (tS τ - tS τ).toNat = 0 by omega]; rfl
      · rw [e5, kup_j (by omega), h414]; omega
      · rw [e5, kup_j (by omega), h414]; omega
      · rw [e5, kup_j (by omega), h414] at c; omega
    · refine ahead_small h sm hQ 1000 m4 f4 h413 ?_ ?_ ?_ (fun i a c => ?_)
      · rw [h415]; exact (kif_f (by omega)).symm
      · rw [h414]; omega
      · rw [h414]; omega
      · rw [h414] at c; omega
    · have : m5 = tA τ := by
        rw [e5]
        refine tA_is ((tFr_up (by omega)).trans f4) ?_ ?_ ?_ ?_
        · rw [kup_j (by omega)]; exact h413
        · rw [kup_j (by omega), h415]; exact (kif_f (by omega)).symm
        · rw [kup_j (by omega), h414]; exact (kif_t en).symm
        · rw [kup_at]; exact (kif_t en).symm
      rw [this]; exact hQ
theorem P_X12_ahead {G : Kg} {σ : Kmem} (h : tx0 σ) : Run G WM M_X12_ahead 1 0 0 [vA G 0] σ (fun x s => x = 0 ∧ s = tA σ) := by
  refine Run.of (by decide +kernel) (by show (1 : Nat) ≤ 2; decide) ?_
  exact ahead_blank (G := G) (τ := σ) (Q := fun x s => x = 0 ∧ s = tA σ) h ⟨rfl, rfl⟩ 1000 σ tFr.refl (by have := h.2; omega) (by have := h.1.1; have := h.2; omega) (fun i a b => by omega)
theorem P_X12_isSign {G : Kg} {σ : Kmem} {c : Int} (p : tok σ ∧ rI c) : Run G WM M_X12_isSign 0 0 0 [vA G 0, vI c] σ (fun x s => x = kb (σ 0 12 = 4 ∧ σ 0 15 = c) ∧ s = σ) := by
  obtain ⟨h, hc⟩ := p
  obtain ⟨-, -, h12, -, -, -, -, -, h15⟩ := h
  exact S_X12_isSign ⟨by omega, fun n => ⟨(kb_0 (fun y => n y.1)).symm, rfl⟩, fun e => ⟨h15, hc, fun n => ⟨(kb_0 (fun y => n y.2)).symm, rfl⟩, fun y => ⟨(kb_1 ⟨e, y⟩).symm, rfl⟩⟩⟩
theorem P_X12_fails {G : Kg} {σ : Kmem} {k : Int} (p : tok σ ∧ 0 ≤ σ 0 18 ∧ σ 0 18 ≤ 9) : Run G WM M_X12_fails 0 0 0 [vA G 0, vI k] σ (fun x s => x = 0 ∧ s = tF σ k) := by
  have p1 := p.1.2.2.1
  unfold tF
  refine S_X12_fails ⟨by omega, fun n => ⟨rfl, (kif_f n).symm⟩, fun e => ⟨by omega, fun n m3 e3 m5 e5 => ⟨rfl, ?_⟩, fun n m3 e3 m5 e5 => ⟨rfl, ?_⟩⟩⟩
  · rw [kif_t e, kif_f n, e5, e3, kup_j (by omega)]
  · rw [kif_t e, kif_t n, e5, e3, kup_j (by omega)]
theorem n256_r {b : Int → Int} {s : Int} : ∀ m : Nat, m ≤ 8 → (∀ i : Nat, i < m → cSm (b (s + i))) → 0 ≤ n256 b s m ∧ n256 b s m * 2 < 2 ^ (8 * m)
  | 0, _, _ => by unfold n256; decide
  | m + 1, hm, h => by
    have ih := n256_r m (by omega) (fun i hi => h i (by omega))
    have d := h m (by omega)
    unfold n256
    have : m = 0 ∨ m = 1 ∨ m = 2 ∨ m = 3 ∨ m = 4 ∨ m = 5 ∨ m = 6 ∨ m = 7 := by omega
    rcases this with rfl | rfl | rfl | rfl | rfl | rfl | rfl | rfl <;> (simp only [Nat.reduceMul, Nat.reduceAdd, Int.reducePow] at ih ⊢; omega)
