/-! Scanner: numbers, reserved words -/
def nDc (b : Int → Int) (s : Int) : Nat → Int
  | 0 => 0
  | m + 1 => nDc b s m * 10 + (b (s + m) - 48)
theorem nDc_s {b : Int → Int} {s : Int} {m : Nat} : nDc b s (m + 1) = nDc b s m * 10 + (b (s + m) - 48) := rfl
theorem nVa_s {b : Int → Int} {s : Int} {m : Nat} : nVa b s (m + 1) = min 100000 (10 * nVa b s m + b (s + m) - 48) := rfl
theorem nDc_is {b : Int → Int} {s : Int} : ∀ m : Nat, m ≤ 4 → (∀ i : Nat, i < m → cDg (b (s + i))) → nVa b s m = nDc b s m
  | 0, _, _ => rfl
  | m + 1, hm, h => by
    have ih := nDc_is (b := b) (s := s) m (by omega) (fun i hi => h i (by omega))
    have r := nVa_r (b := b) (s := s) m (fun i hi => h i (by omega))
    have r3 := r.2.2 (by omega)
    have d := h m (by omega)
    have p : (10 : Int) ^ m ≤ 1000 := by
      have : m = 0 ∨ m = 1 ∨ m = 2 ∨ m = 3 := by omega
      rcases this with q | q | q | q <;> subst q <;> decide
    rw [nVa_s, nDc_s, ← ih]
    omega
theorem P_X6_nextNumber {G : Kg} {m τ : Kmem} (ht : tRt m τ) (tx : tx0 τ) (h3 : m 3 3 = tS τ) (h4 : m 3 4 = tS τ) (hs : cDg (bA τ (tS τ))) : Run G WX M_X6_nextNumber 0 0 0 [vA G 3] m (fun y t => y = 0 ∧ kS jN t m ∧ t 3 2 = tK τ ∧ t 3 3 = tS τ ∧ t 3 4 = tE τ ∧ (tK τ = 3 → t 3 5 = tV τ) ∧ tK τ ≠ 2) := by
  have s := (tS_ok tx).1
  have e := tE_ok tx
  obtain ⟨e1, e2⟩ := e.2.2.2 hs
  have lim := e.1
  have t14 := tx.2
  have t11 := tx.1.1
  have eK : tK τ = kif (tE τ - tS τ ≤ 4) 3 1 := by
    unfold tK; rw [kif_f (by omega), kif_f (by omega), kif_t hs]
  have eV : tV τ = nVa (bA τ) (tS τ) (tE τ - tS τ).toNat := kif_t hs
  have lp : ∀ (n : Nat) (t : Kmem), τ 0 11 - t 3 4 < n → kS jN t m → t 3 3 = tS τ → (tS τ ≤ t 3 4 ∧ t 3 4 ≤ τ 0 11) → (∀ i, tS τ ≤ i → i < t 3 4 → cDg (bA τ i)) → t 3 5 = nDc (bA τ) (tS τ) (t 3 4 - tS τ).toNat → E_X6_nextNumber_5 G t (fun y t => y = 0 ∧ kS jN t m ∧ t 3 2 = tK τ ∧ t 3 3 = tS τ ∧ t 3 4 = tE τ ∧ (tK τ = 3 → t 3 5 = tV τ) ∧ tK τ ≠ 2) := by
    intro n
    induction n with
    | zero => intro t a b d f g k; omega
    | succ n ih =>
      intro t a b d f g k
      have t31 : t 3 1 = τ 0 11 := (b.2 1 (by omega)).trans ht.1
      have t4 : t 4 = m 4 := b.1 4 (by omega)
      have stop : ¬ cDg (bA τ (t 3 4)) → t 3 4 = tE τ := by
        intro q
        by_cases x : t 3 4 < tE τ
        · exact absurd (e1 _ f.1 x) q
        · by_cases y : tE τ < t 3 4
          · exact absurd (g _ lim.1 y) e2
          · omega
      have done : t 3 4 = tE τ → (rI ((t 3 4) - (t 3 3))) ∧ (((t 3 4) - (t 3 3) ≤ 4 → ((0 : Int) = 0 ∧ kS jN (kup t 3 2 3) m ∧ (kup t 3 2 3) 3 2 = tK τ ∧ (kup t 3 2 3) 3 3 = tS τ ∧ (kup t 3 2 3) 3 4 = tE τ ∧ (tK τ = 3 → (kup t 3 2 3) 3 5 = tV τ) ∧ tK τ ≠ 2)) ∧ (4 < (t 3 4) - (t 3 3) → ((0 : Int) = 0 ∧ kS jN (kup t 3 2 1) m ∧ (kup t 3 2 1) 3 2 = tK τ ∧ (kup t 3 2 1) 3 3 = tS τ ∧ (kup t 3 2 1) 3 4 = tE τ ∧ (tK τ = 3 → (kup t 3 2 1) 3 5 = tV τ) ∧ tK τ ≠ 2))) := by
        intro q
        rw [q, d]
        refine ⟨by constructor <;> omega, fun z => ?_, fun z => ?_⟩
        · rw [kif_t z] at eK
          refine ⟨rfl, (kS_up (by omega)).trans b, by rw [kup_at, eK], by rw [kup_j (by omega)]; exact d, by rw [kup_j (by omega)]; exact q, fun _ => ?_, by omega⟩
          rw [kup_j (by omega), k, q, eV]
          exact (nDc_is _ (by omega) (fun i hi => e1 _ (by omega) (by omega))).symm
        · rw [kif_f (by omega)] at eK
          exact ⟨rfl, (kS_up (by omega)).trans b, by rw [kup_at, eK], by rw [kup_j (by omega)]; exact d, by rw [kup_j (by omega)]; exact q, fun z => by omega, by omega⟩
      refine S_X6_nextNumber_5 ⟨by constructor <;> omega, by rw [t31]; constructor <;> omega, fun q => done (stop ?_), fun q => ?_⟩
      · have : bA τ (t 3 4) = -1 := kif_f (by omega)
        rw [this]; omega
      have b4 := tRt_b ht tx.1 (i := t 3 4) (by omega) (by rw [ht.1]; omega)
      rw [t4]
      refine ⟨by omega, by constructor <;> omega, fun q2 => done (stop (by omega)), fun q2 => ⟨by omega, fun q3 => done (stop (by omega)), fun q3 => ⟨by omega, ?_⟩⟩⟩
      have v4 : (kup (kup t 3 5 (t 3 5 * 10 + (m 4 (t 3 4) - 48))) 3 4 ((kup t 3 5 (t 3 5 * 10 + (m 4 (t 3 4) - 48))) 3 4 + 1)) 3 4 = t 3 4 + 1 := by rw [kup_at, kup_j (by omega)]
      refine ih _ (by rw [v4]; omega) ((kS_up (by omega)).trans ((kS_up (by omega)).trans b)) (by rw [kup_j (by omega), kup_j (by omega)]; exact d) (by rw [v4]; omega) (fun i i1 i2 => ?_) ?_
      · rw [v4] at i2
        by_cases y : i = t 3 4
        · rw [y]; omega
        · exact g i i1 (by omega)
      · rw [v4, kup_j (by omega), kup_at, k, show (t 3 4 + 1 - tS τ).toNat = (t 3 4 - tS τ).toNat + 1 by omega]
        rw [nDc_s, show tS τ + ((t 3 4 - tS τ).toNat : Int) = t 3 4 by omega]
        omega
  refine S_X6_nextNumber (lp ((τ 0 11 - tS τ).toNat + 1) _ ?_ (kS_up (by omega)) ?_ ?_ ?_ ?_)
  · rw [kup_j (by omega), h4]; omega
  · rw [kup_j (by omega), h3]
  · rw [kup_j (by omega), h4]; omega
  · rw [kup_j (by omega), h4]; intro i a b; omega
  · rw [kup_at, kup_j (by omega), h4, show (tS τ - tS τ).toNat = 0 by omega]; rfl
theorem n32_r {b : Int → Int} {s : Int} : ∀ m : Nat, (∀ i : Nat, i < m → cSm (b (s + i))) → 0 ≤ n32 b s m ∧ n32 b s m < 32 ^ m ∧ (0 < m → 1 ≤ n32 b s m)
  | 0, _ => ⟨Int.le_refl _, (by decide : (0 : Int) < 32 ^ 0), fun h => absurd h (by omega)⟩
  | m + 1, h => by
    have ih := n32_r (b := b) (s := s) m (fun i hi => h i (by omega))
    have d := h m (by omega)
    rw [n32_s, Int.pow_succ]
    omega
theorem n32_inj {b c : Int → Int} {s t : Int} : ∀ m n : Nat, (∀ i : Nat, i < m → cSm (b (s + i))) → (∀ i : Nat, i < n → cSm (c (t + i))) → n32 b s m = n32 c t n → m = n ∧ ∀ i : Nat, i < m → b (s + i) = c (t + i)
  | 0, 0, _, _, _ => ⟨rfl, fun i hi => by omega⟩
  | 0, n + 1, _, hc, e => by
    have := (n32_r (b := c) (s := t) (n + 1) hc).2.2 (by omega)
    rw [← e] at this
    exact absurd (show (1 : Int) ≤ 0 from this) (by decide)
  | m + 1, 0, hb, _, e => by
    have := (n32_r (b := b) (s := s) (m + 1) hb).2.2 (by omega)
    rw [e] at this
    exact absurd (show (1 : Int) ≤ 0 from this) (by decide)
  | m + 1, n + 1, hb, hc, e => by
    have d1 := hb m (by omega)
    have d2 := hc n (by omega)
    rw [n32_s, n32_s] at e
    obtain ⟨i1, i2⟩ := n32_inj m n (fun i hi => hb i (by omega)) (fun i hi => hc i (by omega)) (by omega)
    subst i1
    refine ⟨rfl, fun i hi => ?_⟩
    by_cases q : i = m
    · rw [q]; omega
    · exact i2 i (by omega)
theorem n32_ext {b c : Int → Int} {s t : Int} : ∀ m : Nat, (∀ i : Nat, i < m → b (s + i) = c (t + i)) → n32 b s m = n32 c t m
  | 0, _ => rfl
  | m + 1, h => by rw [n32_s, n32_s, n32_ext m (fun i hi => h i (by omega)), h m (by omega)]
/-- the reserved words, as the class keeps them: where each begins, and which of the reference's it is -/
def rwO (n : Nat) : Nat := ([0, 5, 8, 13, 18, 22, 27, 30, 35, 42, 48, 54, 59, 65, 72, 75, 80, 85, 89, 94, 98, 103, 109, 114, 117, 122, 126, 131] : List Nat).getD n 0
def rwP (n : Nat) : Nat := ([0, 7, 1, 2, 3, 4, 8, 9, 10, 11, 12, 5, 13, 6, 14, 15, 16, 17, 18, 19, 20, 24, 25, 26, 21, 22, 23] : List Nat).getD n 0
theorem rw_len : kslen 15 = 131 ∧ rwO 27 = 131 ∧ rwO 0 = 0 := by decide +kernel
theorem rw_next : ∀ n : Nat, n < 27 → rwO n + kwL (rwP n) + 1 = rwO (n + 1) ∧ rwO (n + 1) ≤ 131 ∧ rwP n < 27 ∧ kwL (rwP n) ≤ 6 := by decide +kernel
theorem rw_in : ∀ n : Nat, n < 27 → ∀ j : Nat, j < kwL (rwP n) → ksat 15 ((rwO n + j : Nat) : Int) = kwC (rwP n) j := by decide +kernel
theorem rw_end : ∀ n : Nat, n < 27 → ksat 15 ((rwO n + kwL (rwP n) : Nat) : Int) = 32 := by decide +kernel
theorem rw_all : ∀ k : Nat, k < 27 → ∃ n : Nat, n < 27 ∧ rwP n = k := by decide +kernel
/-- a word's number -/
def rwV (k : Nat) : Int := n32 (fun j => kwC k j.toNat) 0 (kwL k)
theorem rwV_r : ∀ k : Nat, k < 27 → 0 ≤ rwV k ∧ rwV k < 1099511627776 := by decide +kernel
/-- is there a word with that number -/
def xRs (x : Int) : Prop := ∃ k : Nat, k < 27 ∧ x = rwV k
theorem P_X6_isReserved {G : Kg} {σ : Kmem} (p : 0 ≤ σ 3 6 ∧ σ 3 6 < 1099511627776) : Run G WX M_X6_isReserved 4 0 0 [vA G 3] σ (fun x s => x = kb (xRs (σ 3 6)) ∧ s = σ) := by
  have L := rw_len
  have one : ∀ n : Nat, n < 27 → ∀ {Q : Int → Kmem → Prop}, (σ 3 6 = rwV (rwP n) → Q 1 σ) → (σ 3 6 ≠ rwV (rwP n) → E_X6_isReserved_4 G 0 ((rwO (n + 1) : Nat) : Int) σ Q) → E_X6_isReserved_4 G 0 ((rwO n : Nat) : Int) σ Q := by
    intro n hn Q k1 k2
    have N := rw_next n hn
    have V := rwV_r (rwP n) N.2.2.1
    have lt : ∀ i : Nat, i < kwL (rwP n) → cSm ((fun j : Int => kwC (rwP n) j.toNat) (0 + i)) := fun i hi => by
      show cSm (kwC (rwP n) (0 + (i : Int)).toNat)
      rw [show (0 + (i : Int)).toNat = i by omega]
      exact kw_in _ N.2.2.1 i hi
    have run : ∀ j : Nat, j ≤ kwL (rwP n) → E_X6_isReserved_4 G (n32 (fun j => kwC (rwP n) j.toNat) 0 (kwL (rwP n) - j)) ((rwO n + (kwL (rwP n) - j) : Nat) : Int) σ Q := by
      intro j
      induction j with
      | zero =>
        intro _
        have e := rw_end n hn
        rw [Nat.sub_zero]
        refine S_X6_isReserved_4 ⟨by constructor <;> omega, by rw [L.1]; decide, fun q => by omega, fun q => ⟨by omega, by rw [e]; decide, fun _ => ⟨?_, by constructor <;> omega, fun ne => ?_, fun eq => k1 (eq.symm.trans rfl)⟩, fun q2 => absurd e q2⟩⟩
        · have : n32 (fun j => kwC (rwP n) j.toNat) 0 (kwL (rwP n)) = rwV (rwP n) := rfl
          rw [this]; constructor <;> omega
        · have := k2 (fun z => ne z.symm)
          rw [← N.1] at this
          have c : ((rwO n + kwL (rwP n) + 1 : Nat) : Int) = ((rwO n + kwL (rwP n) : Nat) : Int) + 1 := by omega
          rw [c] at this
          exact this
      | succ j ih =>
        intro hj
        have := ih (by omega)
        have c := rw_in n hn (kwL (rwP n) - (j + 1)) (by omega)
        have r := kw_in (rwP n) N.2.2.1 (kwL (rwP n) - (j + 1)) (by omega)
        rw [show kwL (rwP n) - j = (kwL (rwP n) - (j + 1)) + 1 by omega, n32_s] at this
        have c2 : ((rwO n + (kwL (rwP n) - (j + 1) + 1) : Nat) : Int) = ((rwO n + (kwL (rwP n) - (j + 1)) : Nat) : Int) + 1 := by omega
        rw [c2] at this
        have c3 : kwC (rwP n) (0 + ((kwL (rwP n) - (j + 1) : Nat) : Int)).toNat = kwC (rwP n) (kwL (rwP n) - (j + 1)) := by
          rw [show (0 + ((kwL (rwP n) - (j + 1) : Nat) : Int)).toNat = kwL (rwP n) - (j + 1) by omega]
        rw [c3] at this
        refine S_X6_isReserved_4 ⟨by constructor <;> omega, by rw [L.1]; decide, fun q => by omega, fun q => ⟨by omega, by rw [c]; constructor <;> omega, fun q2 => by rw [c] at q2; omega, fun _ => ⟨by omega, by rw [c]; constructor <;> omega, ?_⟩⟩⟩
        rw [c, show kwC (rwP n) (kwL (rwP n) - (j + 1)) - 97 + 1 = kwC (rwP n) (kwL (rwP n) - (j + 1)) - 96 by omega]
        exact this
    have := run (kwL (rwP n)) (Nat.le_refl _)
    rw [Nat.sub_self] at this
    exact this
  have all : ∀ j : Nat, j ≤ 27 → (∀ n : Nat, n < 27 - j → σ 3 6 ≠ rwV (rwP n)) → E_X6_isReserved_4 G 0 ((rwO (27 - j) : Nat) : Int) σ (fun x s => x = kb (xRs (σ 3 6)) ∧ s = σ) := by
    intro j
    induction j with
    | zero =>
      intro _ no
      rw [Nat.sub_zero, L.2.1]
      refine S_X6_isReserved_4 ⟨by decide, by rw [L.1]; decide, fun _ => ⟨(kb_0 (fun z => ?_)).symm, rfl⟩, fun q => by rw [L.1] at q; omega⟩
      obtain ⟨k, hk, e⟩ := z
      obtain ⟨n, hn, en⟩ := rw_all k hk
      exact no n (by omega) (by rw [en]; exact e)
    | succ j ih =>
      intro hj no
      refine one (27 - (j + 1)) (by omega) (fun e => ⟨(kb_1 ⟨_, (rw_next _ (by omega)).2.2.1, e⟩).symm, rfl⟩) (fun ne => ?_)
      rw [show 27 - (j + 1) + 1 = 27 - j by omega]
      refine ih (by omega) (fun n hn => ?_)
      by_cases q : n = 27 - (j + 1)
      · rw [q]; exact ne
      · exact no n (by omega)
  have := all 27 (Nat.le_refl _) (fun n hn => absurd hn (by omega))
  rw [Nat.sub_self, L.2.2] at this
  exact S_X6_isReserved this
