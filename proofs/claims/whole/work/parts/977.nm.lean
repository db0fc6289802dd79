/-! names, by 32 and by 256 -/
theorem n256_s {b : Int → Int} {s : Int} {m : Nat} : n256 b s (m + 1) = n256 b s m * 256 + b (s + m) := rfl
theorem n256_1 {b : Int → Int} {s : Int} : ∀ m : Nat, (∀ i : Nat, i < m → cSm (b (s + i))) → 0 ≤ n256 b s m ∧ (0 < m → 1 ≤ n256 b s m)
  | 0, _ => ⟨Int.le_refl _, fun h => absurd h (by omega)⟩
  | m + 1, h => by
    have ih := n256_1 (b := b) (s := s) m (fun i hi => h i (by omega))
    have d := h m (by omega)
    rw [n256_s]
    omega
theorem n256_inj {b c : Int → Int} {s t : Int} : ∀ m n : Nat, (∀ i : Nat, i < m → cSm (b (s + i))) → (∀ i : Nat, i < n → cSm (c (t + i))) → n256 b s m = n256 c t n → m = n ∧ ∀ i : Nat, i < m → b (s + i) = c (t + i)
  | 0, 0, _, _, _ => ⟨rfl, fun i hi => by omega⟩
  | 0, n + 1, _, hc, e => by
    have := (n256_1 (b := c) (s := t) (n + 1) hc).2 (by omega)
    rw [← e] at this
    exact absurd (show (1 : Int) ≤ 0 from this) (by decide)
  | m + 1, 0, hb, _, e => by
    have := (n256_1 (b := b) (s := s) (m + 1) hb).2 (by omega)
    rw [e] at this
    exact absurd (show (1 : Int) ≤ 0 from this) (by decide)
  | m + 1, n + 1, hb, hc, e => by
    have d1 := hb m (by omega)
    have d2 := hc n (by omega)
    rw [n256_s, n256_s] at e
    obtain ⟨i1, i2⟩ := n256_inj m n (fun i hi => hb i (by omega)) (fun i hi => hc i (by omega)) (by omega)
    subst i1
    refine ⟨rfl, fun i hi => ?_⟩
    by_cases q : i = m
    · rw [q]; omega
    · exact i2 i (by omega)
theorem n256_ext {b c : Int → Int} {s t : Int} : ∀ m : Nat, (∀ i : Nat, i < m → b (s + i) = c (t + i)) → n256 b s m = n256 c t m
  | 0, _ => rfl
  | m + 1, h => by rw [n256_s, n256_s, n256_ext m (fun i hi => h i (by omega)), h m (by omega)]
/-- the same letters -/
def nmE (x y : Int) : Prop := ∃ (f : Int → Int) (s : Int) (m : Nat), m ≤ 8 ∧ (∀ i : Nat, i < m → cSm (f (s + i))) ∧ x = n32 f s m ∧ y = n256 f s m
theorem nmE_iff {x y x' y' : Int} (h : nmE x y) (g : nmE x' y') : x = x' ↔ y = y' := by
  obtain ⟨f, s, m, hm, hf, e1, e2⟩ := h
  obtain ⟨f', s', m', hm', hf', e1', e2'⟩ := g
  rw [e1, e2, e1', e2']
  constructor
  · intro e
    obtain ⟨q1, q2⟩ := n32_inj m m' hf hf' e
    rw [← q1]; exact n256_ext m q2
  · intro e
    obtain ⟨q1, q2⟩ := n256_inj m m' hf hf' e
    rw [← q1]; exact n32_ext m q2
theorem pow32_8 {m : Nat} (h : m ≤ 8) : (32 : Int) ^ m ≤ 1099511627776 := by
  have q : m = 0 ∨ m = 1 ∨ m = 2 ∨ m = 3 ∨ m = 4 ∨ m = 5 ∨ m = 6 ∨ m = 7 ∨ m = 8 := by omega
  rcases q with q | q | q | q | q | q | q | q | q <;> subst q <;> decide
theorem nmE_r {x y : Int} (h : nmE x y) : rL x := by
  obtain ⟨f, s, m, hm, hf, e1, e2⟩ := h
  have r := n32_r m hf
  have p := pow32_8 hm
  rw [e1]
  constructor <;> omega
/-- n names from the cells c on are those from base on -/
def nmB (σ : Kmem) (c n : Int) (f : Int → Int) (b : Int) : Prop := ∀ k, 0 ≤ k → k < n → nmE (σ (c + k) 0) (f (b + k))
/-- the name that is read -/
theorem nmE_tok {σ τ : Kmem} (h : tRs σ τ) (t : tok τ) (h2 : τ 0 12 = 2) (h8 : τ 0 14 - τ 0 13 ≤ 8) : nmE (σ 3 6) (tNm τ) := by
  have sm := t.2.2.2.2.2.1 h2
  have r := t.2.1
  exact ⟨bA τ, τ 0 13, (τ 0 14 - τ 0 13).toNat, by omega, fun i hi => sm _ (by omega) (by omega), h.2.2.2.2 h2, rfl⟩
theorem fst_at {p : Int → Prop} : ∀ (m n : Nat) (k : Nat), n ≤ k → k < n + m → p k → (∀ j : Nat, n ≤ j → j < k → ¬ p j) → fst p m n = k
  | 0, n, k, a, b, _, _ => by omega
  | m + 1, n, k, a, b, hp, hn => by
    have e : fst p (m + 1) n = kif (p n) (n : Int) (fst p m (n + 1)) := rfl
    by_cases q : n = k
    · rw [e, q, kif_t hp]
    · rw [e, kif_f (hn n (Nat.le_refl _) (by omega))]
      exact fst_at m (n + 1) k (by omega) (by omega) hp (fun j a b => hn j (by omega) b)
