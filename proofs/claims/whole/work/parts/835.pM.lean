/-! texts: the reference's bytes -/
def txt (τ : Kmem) : Prop := (0 ≤ τ 0 11 ∧ τ 0 11 ≤ 900) ∧ ∀ i, 0 ≤ i → i < 900 → -128 ≤ τ 7 i ∧ τ 7 i ≤ 127
noncomputable def bA (τ : Kmem) (k : Int) : Int := kif (k < τ 0 11) (τ 7 k % 256) (-1)
theorem kand_255 {a : Int} (h : -128 ≤ a ∧ a ≤ 127) : kand a 255 = a % 256 := by
  have q : ∀ n : Nat, n < 256 → kand ((n : Int) - 128) 255 = ((n : Int) - 128) % 256 := by decide +kernel
  have := q (a + 128).toNat (by omega)
  rw [show (((a + 128).toNat : Nat) : Int) - 128 = a by omega] at this
  exact this
theorem bA_r {τ : Kmem} {k : Int} : -1 ≤ bA τ k ∧ bA τ k ≤ 255 := by
  unfold bA
  by_cases h : k < τ 0 11
  · rw [kif_t h]; omega
  · rw [kif_f h]; omega
theorem bA_in {τ : Kmem} {k : Int} (h : bA τ k ≠ -1) : k < τ 0 11 := by
  apply Classical.byContradiction
  intro n
  exact h (kif_f n)
theorem P_X12_byteAt {G : Kg} {σ : Kmem} {k : Int} (p : txt σ ∧ 0 ≤ k ∧ k ≤ 2000) : Run G WM M_X12_byteAt 0 0 0 [vA G 0, vI k] σ (fun x s => x = bA σ k ∧ s = σ) := by
  obtain ⟨⟨h1, h2⟩, hk⟩ := p
  refine S_X12_byteAt ⟨by omega, by omega, fun q => ⟨(kif_f (by omega)).symm, rfl⟩, fun q => ⟨by omega, ?_, rfl⟩⟩
  rw [kand_255 (h2 k (by omega) (by omega))]
  exact (kif_t q).symm
/-- the first place from p on where P is not -/
noncomputable def kwh (P : Int → Prop) : Nat → Int → Int
  | 0, p => p
  | m + 1, p => kif (P p) (kwh P m (p + 1)) p
theorem kwh_is {P : Int → Prop} {r : Int} (hr : ¬ P r) : ∀ (m : Nat) (p : Int), p ≤ r → r - p < m → (∀ i, p ≤ i → i < r → P i) → kwh P m p = r := by
  intro m
  induction m with
  | zero => intro p h1 h2; omega
  | succ m ih =>
    intro p h1 h2 h3
    unfold kwh
    by_cases e : p = r
    · subst e; exact kif_f hr
    · rw [kif_t (h3 p (by omega) (by omega))]
      exact ih (p + 1) (by omega) (by omega) (fun i a b => h3 i (by omega) b)
theorem kwh_ok {P : Int → Prop} {n : Int} (hn : ∀ i, P i → i < n) : ∀ (m : Nat) (p : Int), n - p < m → p ≤ kwh P m p ∧ (kwh P m p ≤ n ∨ kwh P m p = p) ∧ ¬ P (kwh P m p) ∧ ∀ i, p ≤ i → i < kwh P m p → P i := by
  intro m
  induction m with
  | zero => intro p h; exact ⟨Int.le_refl p, Or.inr rfl, fun q => by have q2 : P p := q; have := hn p q2; omega, fun i a b => by have b2 : i < p := b; omega⟩
  | succ m ih =>
    intro p h
    by_cases e : P p
    · have r := ih (p + 1) (by omega)
      have ek : kwh P (m + 1) p = kwh P m (p + 1) := kif_t e
      rw [ek]
      have := hn p e
      refine ⟨by omega, by omega, r.2.2.1, fun i a b => ?_⟩
      by_cases z : i = p
      · subst z; exact e
      · exact r.2.2.2 i (by omega) b
    · have ek : kwh P (m + 1) p = p := kif_f e
      rw [ek]
      exact ⟨Int.le_refl p, Or.inr rfl, e, fun i a b => by omega⟩
abbrev cBl (c : Int) : Prop := c = 32 ∨ c = 10
abbrev cSm (c : Int) : Prop := 97 ≤ c ∧ c ≤ 122
abbrev cDg (c : Int) : Prop := 48 ≤ c ∧ c ≤ 57
abbrev cSi (c : Int) : Prop := 59 ≤ c ∧ c ≤ 62
/-- the value of so many digits, as the reference keeps it -/
def nVa (b : Int → Int) (s : Int) : Nat → Int
  | 0 => 0
  | m + 1 => min 100000 (10 * nVa b s m + b (s + m) - 48)
noncomputable def tS (τ : Kmem) : Int := kwh (fun i => cBl (bA τ i)) 1000 (τ 0 14)
noncomputable def tE (τ : Kmem) : Int := kif (bA τ (tS τ) = -1) (tS τ) (kif (cSm (bA τ (tS τ))) (kwh (fun i => cSm (bA τ i)) 1000 (tS τ)) (kif (cDg (bA τ (tS τ))) (kwh (fun i => cDg (bA τ i)) 1000 (tS τ)) (tS τ + 1)))
noncomputable def tV (τ : Kmem) : Int := kif (cDg (bA τ (tS τ))) (nVa (bA τ) (tS τ) (tE τ - tS τ).toNat) (bA τ (tS τ))
noncomputable def tK (τ : Kmem) : Int := kif (bA τ (tS τ) = -1) 0 (kif (cSm (bA τ (tS τ))) 2 (kif (cDg (bA τ (tS τ))) (kif (tE τ - tS τ ≤ 4) 3 1) (kif (cSi (bA τ (tS τ))) 4 1)))
noncomputable def tA (τ : Kmem) : Kmem := kup (kup (kup (kup τ 0 13 (tS τ)) 0 15 (tV τ)) 0 14 (tE τ)) 0 12 (tK τ)
/-- all but the token is the same -/
def tFr (s t : Kmem) : Prop := (∀ x, x ≠ 0 → s x = t x) ∧ ∀ j, (j < 12 ∨ 15 < j) → s 0 j = t 0 j
theorem tFr.refl {s : Kmem} : tFr s s := ⟨fun _ _ => rfl, fun _ _ => rfl⟩
theorem tFr.trans {s t u : Kmem} (h : tFr s t) (g : tFr t u) : tFr s u := ⟨fun x a => (h.1 x a).trans (g.1 x a), fun j a => (h.2 j a).trans (g.2 j a)⟩
theorem tFr_up {s : Kmem} {j y : Int} (h : 12 ≤ j ∧ j ≤ 15) : tFr (kup s 0 j y) s := ⟨fun x a => kup_o a, fun k a => kup_j (by omega)⟩
theorem tFr_b {s t : Kmem} (h : tFr s t) (k : Int) : bA s k = bA t k := by unfold bA; rw [h.2 11 (by omega), h.1 7 (by omega)]
theorem tFr_x {s t : Kmem} (h : tFr s t) (k : txt t) : txt s := by unfold txt; rw [h.2 11 (by omega), h.1 7 (by omega)]; exact k
theorem tA_fr {τ : Kmem} : tFr (tA τ) τ := (tFr_up (by omega)).trans ((tFr_up (by omega)).trans ((tFr_up (by omega)).trans (tFr_up (by omega))))
theorem tA_v {τ : Kmem} : tA τ 0 13 = tS τ ∧ tA τ 0 15 = tV τ ∧ tA τ 0 14 = tE τ ∧ tA τ 0 12 = tK τ := by
  unfold tA
  exact ⟨by rw [kup_j (by omega), kup_j (by omega), kup_j (by omega), kup_at], by rw [kup_j (by omega), kup_j (by omega), kup_at], by rw [kup_j (by omega), kup_at], kup_at⟩
theorem tA_is {τ m : Kmem} (f : tFr m τ) (h13 : m 0 13 = tS τ) (h15 : m 0 15 = tV τ) (h14 : m 0 14 = tE τ) (h12 : m 0 12 = tK τ) : m = tA τ := by
  funext x j
  by_cases hx : x = 0
  · subst hx
    have v := tA_v (τ := τ)
    by_cases hj : j < 12 ∨ 15 < j
    · rw [f.2 j hj, tA_fr.2 j hj]
    · have : j = 12 ∨ j = 13 ∨ j = 14 ∨ j = 15 := by omega
      rcases this with rfl | rfl | rfl | rfl
      · rw [h12, v.2.2.2]
      · rw [h13, v.1]
      · rw [h14, v.2.2.1]
      · rw [h15, v.2.1]
  · rw [f.1 x hx, tA_fr.1 x hx]
abbrev tx0 (τ : Kmem) : Prop := txt τ ∧ 0 ≤ τ 0 14 ∧ τ 0 14 ≤ τ 0 11
theorem tS_ok {τ : Kmem} (h : tx0 τ) : (τ 0 14 ≤ tS τ ∧ tS τ ≤ τ 0 11) ∧ ¬ cBl (bA τ (tS τ)) ∧ (∀ i, τ 0 14 ≤ i → i < tS τ → cBl (bA τ i)) := by
  have h1 := h.1.1
  have h2 := h.2
  have := kwh_ok (P := fun i => cBl (bA τ i)) (n := τ 0 11) (fun i hi => bA_in (by omega)) 1000 (τ 0 14) (by omega)
  have e : tS τ = kwh (fun i => cBl (bA τ i)) 1000 (τ 0 14) := rfl
  rw [← e] at this
  exact ⟨by omega, this.2.2.1, this.2.2.2⟩
/-- a token as it may be -/
def tok (τ : Kmem) : Prop := txt τ ∧ (0 ≤ τ 0 13 ∧ τ 0 13 ≤ τ 0 14 ∧ τ 0 14 ≤ τ 0 11) ∧ (0 ≤ τ 0 12 ∧ τ 0 12 ≤ 4) ∧ (τ 0 12 = 0 → τ 0 13 = τ 0 11) ∧ (τ 0 12 ≠ 0 → τ 0 13 < τ 0 14) ∧ (τ 0 12 = 2 → ∀ i, τ 0 13 ≤ i → i < τ 0 14 → cSm (bA τ i)) ∧ (τ 0 12 = 3 → (0 ≤ τ 0 15 ∧ τ 0 15 ≤ 9999)) ∧ (τ 0 12 = 4 → τ 0 15 = bA τ (τ 0 13) ∧ cSi (τ 0 15)) ∧ rI (τ 0 15)
theorem tok_x0 {τ : Kmem} (h : tok τ) : tx0 τ := ⟨h.1, by have := h.2.1; omega, h.2.1.2.2⟩
theorem nVa_r {b : Int → Int} {s : Int} : ∀ m : Nat, (∀ i : Nat, i < m → cDg (b (s + i))) → 0 ≤ nVa b s m ∧ nVa b s m ≤ 100000 ∧ (m ≤ 4 → nVa b s m < 10 ^ m)
  | 0, _ => by unfold nVa; exact ⟨by omega, by omega, fun _ => by decide⟩
  | m + 1, h => by
    have ih := nVa_r m (fun i hi => h i (by omega))
    have d := h m (by omega)
    unfold nVa
    refine ⟨by omega, by omega, fun hm => ?_⟩
    have := ih.2.2 (by omega)
    have e : (10 : Int) ^ (m + 1) = 10 * 10 ^ m := by rw [Int.pow_succ, Int.mul_comm]
    omega
theorem tE_ok {τ : Kmem} (h : tx0 τ) : (tS τ ≤ tE τ ∧ tE τ ≤ τ 0 11) ∧ (bA τ (tS τ) ≠ -1 → tS τ < tE τ) ∧ (cSm (bA τ (tS τ)) → (∀ i, tS τ ≤ i → i < tE τ → cSm (bA τ i)) ∧ ¬ cSm (bA τ (tE τ))) ∧ (cDg (bA τ (tS τ)) → (∀ i, tS τ ≤ i → i < tE τ → cDg (bA τ i)) ∧ ¬ cDg (bA τ (tE τ))) := by
  have s := tS_ok h
  have h1 := h.1.1
  have h2 := h.2
  have rng : ∀ P : Int → Prop, (∀ c, P c → c ≠ -1) → P (bA τ (tS τ)) → (tS τ < kwh (fun i => P (bA τ i)) 1000 (tS τ) ∧ kwh (fun i => P (bA τ i)) 1000 (tS τ) ≤ τ 0 11) ∧ (∀ i, tS τ ≤ i → i < kwh (fun i => P (bA τ i)) 1000 (tS τ) → P (bA τ i)) ∧ ¬ P (bA τ (kwh (fun i => P (bA τ i)) 1000 (tS τ))) := by
    intro P hP h0
    have := kwh_ok (P := fun i => P (bA τ i)) (n := τ 0 11) (fun i hi => bA_in (hP _ hi)) 1000 (tS τ) (by omega)
    have lt : tS τ ≠ kwh (fun i => P (bA τ i)) 1000 (tS τ) := fun e => this.2.2.1 (by rw [← e]; exact h0)
    exact ⟨by omega, this.2.2.2, this.2.2.1⟩
  unfold tE
  by_cases e1 : bA τ (tS τ) = -1
  · rw [kif_t e1]
    exact ⟨by omega, fun n => absurd e1 n, fun c => by omega, fun c => by omega⟩
  · have lt := bA_in e1
    rw [kif_f e1]
    by_cases e2 : cSm (bA τ (tS τ))
    · rw [kif_t e2]
      have r := rng cSm (fun c hc => by omega) e2
      exact ⟨by omega, fun _ => by omega, fun _ => r.2, fun c => by omega⟩
    · rw [kif_f e2]
      by_cases e3 : cDg (bA τ (tS τ))
      · rw [kif_t e3]
        have r := rng cDg (fun c hc => by omega) e3
        exact ⟨by omega, fun _ => by omega, fun c => by omega, fun _ => r.2⟩
      · rw [kif_f e3]
        exact ⟨by omega, fun _ => by omega, fun c => absurd c e2, fun c => absurd c e3⟩
theorem tA_tok {τ : Kmem} (h : tx0 τ) : tok (tA τ) := by
  have s := tS_ok h
  have e := tE_ok h
  have v := tA_v (τ := τ)
  have h1 := h.1.1
  have h2 := h.2
  have br := bA_r (τ := τ) (k := tS τ)
  have b := fun k => tFr_b (tA_fr (τ := τ)) k
  unfold tok
  rw [v.1, v.2.1, v.2.2.1, v.2.2.2, tA_fr.2 11 (by omega)]
  simp only [b]
  have dv : cDg (bA τ (tS τ)) → 0 ≤ tV τ ∧ tV τ ≤ 100000 ∧ (tE τ - tS τ ≤ 4 → tV τ ≤ 9999) := by
    intro d
    have et : tV τ = nVa (bA τ) (tS τ) (tE τ - tS τ).toNat := kif_t d
    have r := nVa_r (b := bA τ) (s := tS τ) (tE τ - tS τ).toNat (fun i hi => (e.2.2.2 d).1 _ (by omega) (by omega))
    rw [et]
    refine ⟨r.1, r.2.1, fun h4 => ?_⟩
    have := r.2.2 (by omega)
    have p : ∀ m : Nat, m ≤ 4 → (10 : Int) ^ m ≤ 10000 := by decide
    have p := p (tE τ - tS τ).toNat (by omega)
    omega
  have nv : ¬ cDg (bA τ (tS τ)) → tV τ = bA τ (tS τ) := fun n => kif_f n
  have vr : rI (tV τ) := by
    by_cases d : cDg (bA τ (tS τ))
    · have := dv d; omega
    · rw [nv d]; omega
  refine ⟨tFr_x tA_fr h.1, by omega, ?_⟩
  unfold tK
  by_cases e1 : bA τ (tS τ) = -1
  · rw [kif_t e1]
    have : tS τ = τ 0 11 := by
      apply Classical.byContradiction; intro n
      have lt : tS τ < τ 0 11 := by omega
      have : bA τ (tS τ) = τ 7 (tS τ) % 256 := kif_t lt
      omega
    exact ⟨by omega, fun _ => this, fun n => absurd rfl n, fun n => by omega, fun n => by omega, fun n => by omega, vr⟩
  · rw [kif_f e1]
    have lt := e.2.1 e1
    by_cases e2 : cSm (bA τ (tS τ))
    · rw [kif_t e2]
      exact ⟨by omega, fun n => by omega, fun _ => lt, fun _ => (e.2.2.1 e2).1, fun n => by omega, fun n => by omega, vr⟩
    · rw [kif_f e2]
      by_cases e3 : cDg (bA τ (tS τ))
      · rw [kif_t e3]
        by_cases e4 : tE τ - tS τ ≤ 4
        · rw [kif_t e4]
          have := dv e3
          exact ⟨by omega, fun n => by omega, fun _ => lt, fun n => by omega, fun _ => ⟨this.1, this.2.2 e4⟩, fun n => by omega, vr⟩
        · rw [kif_f e4]
          exact ⟨by omega, fun n => by omega, fun _ => lt, fun n => by omega, fun n => by omega, fun n => by omega, vr⟩
      · rw [kif_f e3]
        by_cases e5 : cSi (bA τ (tS τ))
        · rw [kif_t e5]
          exact ⟨by omega, fun n => by omega, fun _ => lt, fun n => by omega, fun n => by omega, fun _ => ⟨nv e3, by rw [nv e3]; exact e5⟩, vr⟩
        · rw [kif_f e5]
          exact ⟨by omega, fun n => by omega, fun _ => lt, fun n => by omega, fun n => by omega, fun n => by omega, vr⟩
/-- a fault, if it is the first -/
noncomputable def tF (τ : Kmem) (k : Int) : Kmem := kif (τ 0 18 = 0) (kup (kup τ 0 18 (kif (τ 0 12 = 1) 1 k)) 0 17 (τ 0 13)) τ
abbrev tSg (τ : Kmem) (c : Int) : Prop := τ 0 12 = 4 ∧ τ 0 15 = c
/-- the letters from s on, by 256 and by 32 -/
def n256 (b : Int → Int) (s : Int) : Nat → Int
  | 0 => 0
  | m + 1 => n256 b s m * 256 + b (s + m)
def n32 (b : Int → Int) (s : Int) : Nat → Int
  | 0 => 0
  | m + 1 => n32 b s m * 32 + (b (s + m) - 96)
noncomputable def tNm (τ : Kmem) : Int := n256 (bA τ) (τ 0 13) (τ 0 14 - τ 0 13).toNat
