/-- whose a field is, when the first n kites have cast the shade s -/
noncomputable def sOwnN (v : Int → Int) (s : Nat) (n : Nat) : Int := kif (v 6 = 2 ∧ kbits s ≠ 1) (-1) (sBest v (s : Int) n)
def sOn (v : Int → Int) (q : Int → Prop) (h f k : Int) : Prop := sFld v (f % 9) (f / 9) ∧ ¬ q k ∧ sShd v k (f % 9) (f / 9) h
noncomputable def sSetI (v : Int → Int) (q : Int → Prop) (h f : Int) (n : Nat) : Nat := kset (sOn v q h f) n
noncomputable def sOwI (v : Int → Int) (q : Int → Prop) (h f : Int) (n : Nat) : Int := sOwnN v (sSetI v q h f n) n
theorem sIn_kset {p : Int → Prop} {n k : Nat} : sIn (kset p n : Int) (k : Int) ↔ k < n ∧ p k := by rw [sIn_nat, kset_bit]
theorem sBest_congr {v : Int → Int} {s s' : Int} : ∀ n : Nat, (∀ k : Nat, k < n → (sIn s k ↔ sIn s' k)) → sBest v s n = sBest v s' n
  | 0, _ => rfl
  | n + 1, h => by
    have ih := sBest_congr (v := v) (s := s) (s' := s') n (fun k hk => h k (by omega))
    show kif (sIn s n ∧ (sBest v s n = -1 ∨ v 6 = 1 ∧ v (34 + 9 * sBest v s n + 2) < v (34 + 9 * (n : Int) + 2))) (n : Int) (sBest v s n) = kif (sIn s' n ∧ (sBest v s' n = -1 ∨ v 6 = 1 ∧ v (34 + 9 * sBest v s' n + 2) < v (34 + 9 * (n : Int) + 2))) (n : Int) (sBest v s' n)
    rw [ih]
    by_cases z : (sIn s' n ∧ (sBest v s' n = -1 ∨ v 6 = 1 ∧ v (34 + 9 * sBest v s' n + 2) < v (34 + 9 * (n : Int) + 2)))
    · rw [kif_t z, kif_t ⟨(h n (by omega)).2 z.1, z.2⟩]
    · rw [kif_f z, kif_f (fun y => z ⟨(h n (by omega)).1 y.1, y.2⟩)]
theorem sBest_none {v : Int → Int} {s : Int} : ∀ n : Nat, sBest v s n = -1 ↔ ∀ k : Nat, k < n → ¬ sIn s k
  | 0 => ⟨fun _ k hk => absurd hk (by omega), fun _ => rfl⟩
  | n + 1 => by
    have ih := sBest_none (v := v) (s := s) n
    have e : sBest v s (n + 1) = kif (sIn s n ∧ (sBest v s n = -1 ∨ v 6 = 1 ∧ v (34 + 9 * sBest v s n + 2) < v (34 + 9 * (n : Int) + 2))) (n : Int) (sBest v s n) := rfl
    rw [e]
    by_cases z : sIn s n
    · by_cases y : sBest v s n = -1
      · rw [kif_t ⟨z, Or.inl y⟩]
        exact ⟨fun a => by omega, fun a => absurd z (a n (by omega))⟩
      · have nz : kif (sIn s n ∧ (sBest v s n = -1 ∨ v 6 = 1 ∧ v (34 + 9 * sBest v s n + 2) < v (34 + 9 * (n : Int) + 2))) (n : Int) (sBest v s n) ≠ -1 := by
          by_cases u : (sIn s n ∧ (sBest v s n = -1 ∨ v 6 = 1 ∧ v (34 + 9 * sBest v s n + 2) < v (34 + 9 * (n : Int) + 2)))
          · rw [kif_t u]; omega
          · rw [kif_f u]; exact y
        exact ⟨fun a => absurd a nz, fun a => absurd z (a n (by omega))⟩
    · rw [kif_f (fun y => z y.1), ih]
      constructor
      · intro a k hk
        by_cases e : k = n
        · rw [e]; exact z
        · exact a k (by omega)
      · intro a k hk; exact a k (by omega)
theorem kbits_two : ∀ a : Nat, a < 64 → ∀ i : Nat, i < 6 → a < 2 ^ i → a ≠ 0 → kbits (a + 2 ^ i) ≠ 1 := by decide +kernel
theorem kbits_one : ∀ i : Nat, i < 6 → kbits (0 + 2 ^ i) = 1 := by decide
theorem sI_same {v : Int → Int} {q : Int → Prop} {h f : Int} {i : Nat} (hn : ¬ sOn v q h f i) : sSetI v q h f (i + 1) = sSetI v q h f i ∧ sOwI v q h f (i + 1) = sOwI v q h f i := by
  have e : sSetI v q h f (i + 1) = sSetI v q h f i := by
    show kset _ i + kif (sOn v q h f i) (2 ^ i) 0 = _
    rw [kif_f hn]; rfl
  refine ⟨e, ?_⟩
  unfold sOwI
  rw [e]
  unfold sOwnN
  have e2 : sBest v (sSetI v q h f i : Int) (i + 1) = sBest v (sSetI v q h f i : Int) i := by
    show kif (sIn (sSetI v q h f i : Int) i ∧ _) _ _ = _
    rw [kif_f (fun y => by have := (sIn_kset (p := sOn v q h f) (n := i) (k := i)).1 y.1; omega)]; rfl
  rw [e2]
/-- the owner when kite i comes to the field -/
theorem sI_new {v : Int → Int} {q : Int → Prop} {h f : Int} {i : Nat} (hi : i < 6) (hp : sOn v q h f i) :
    (sSetI v q h f (i + 1) : Int) = kor (sSetI v q h f i : Int) (kshl 1 i) ∧
    sOwI v q h f (i + 1) = kif (sSetI v q h f i = 0) (i : Int) (kif (v 6 = 2) (-1) (kif (v 6 = 1 ∧ v (34 + 9 * sOwI v q h f i + 2) < v (34 + 9 * (i : Int) + 2)) (i : Int) (sOwI v q h f i))) ∧ (sSetI v q h f i ≠ 0 → v 6 ≠ 2 → sOwI v q h f i ≠ -1) := by
  have e : sSetI v q h f (i + 1) = sSetI v q h f i + 2 ^ i := by
    show kset _ i + kif (sOn v q h f i) (2 ^ i) 0 = _
    rw [kif_t hp]; rfl
  have lt : sSetI v q h f i < 2 ^ i := kset_lt i
  have pw := Nat.pow_le_pow_right (n := 2) (by decide) (show i ≤ 5 by omega)
  have ob : v 6 ≠ 2 → sOwI v q h f i = sBest v (sSetI v q h f i : Int) i := fun h6 => by unfold sOwI sOwnN; rw [kif_f (fun y => h6 y.1)]
  have nz : sSetI v q h f i ≠ 0 → sBest v (sSetI v q h f i : Int) i ≠ -1 := by
    intro z y
    apply z
    apply Nat.eq_of_testBit_eq
    intro x
    rw [Nat.zero_testBit]
    cases hx : (sSetI v q h f i).testBit x
    · rfl
    · have := (kset_bit i x).1 hx
      exact absurd ((sIn_nat (a := sSetI v q h f i) (k := x)).2 hx) ((sBest_none i).1 y x this.1)
  have b1 : sBest v (sSetI v q h f (i + 1) : Int) i = sBest v (sSetI v q h f i : Int) i := by
    refine sBest_congr i (fun k hk => ?_)
    rw [show sSetI v q h f (i + 1) = kset (sOn v q h f) (i + 1) from rfl, show sSetI v q h f i = kset (sOn v q h f) i from rfl, sIn_kset, sIn_kset]
    exact ⟨fun y => ⟨hk, y.2⟩, fun y => ⟨by omega, y.2⟩⟩
  have ini : sIn (sSetI v q h f (i + 1) : Int) i := (sIn_kset (p := sOn v q h f) (n := i + 1) (k := i)).2 ⟨by omega, hp⟩
  have b2 : sBest v (sSetI v q h f (i + 1) : Int) (i + 1) = kif (sBest v (sSetI v q h f i : Int) i = -1 ∨ v 6 = 1 ∧ v (34 + 9 * sBest v (sSetI v q h f i : Int) i + 2) < v (34 + 9 * (i : Int) + 2)) (i : Int) (sBest v (sSetI v q h f i : Int) i) := by
    show kif (sIn (sSetI v q h f (i + 1) : Int) i ∧ (sBest v (sSetI v q h f (i + 1) : Int) i = -1 ∨ v 6 = 1 ∧ v (34 + 9 * sBest v (sSetI v q h f (i + 1) : Int) i + 2) < v (34 + 9 * (i : Int) + 2))) (i : Int) (sBest v (sSetI v q h f (i + 1) : Int) i) = _
    rw [b1]
    by_cases y : (sBest v (sSetI v q h f i : Int) i = -1 ∨ v 6 = 1 ∧ v (34 + 9 * sBest v (sSetI v q h f i : Int) i + 2) < v (34 + 9 * (i : Int) + 2))
    · rw [kif_t y, kif_t ⟨ini, y⟩]
    · rw [kif_f y, kif_f (fun z => y z.2)]
  refine ⟨?_, ?_, fun z h6 => by rw [ob h6]; exact nz z⟩
  · exact kset_s (by omega) hp
  · by_cases z : sSetI v q h f i = 0
    · rw [kif_t z]
      unfold sOwI sOwnN
      rw [kif_f (fun y => y.2 (by rw [e, z]; exact kbits_one i hi)), b2, kif_t (Or.inl ?_)]
      rw [z]
      exact (sBest_none i).2 (fun k hk y => by rw [show ((0 : Nat) : Int) = (kset (fun _ => False) 0 : Int) from rfl] at y; have := (sIn_kset (p := fun _ => False) (n := 0) (k := k)).1 y; omega)
    · rw [kif_f z]
      by_cases h6 : v 6 = 2
      · rw [kif_t h6]
        unfold sOwI sOwnN
        rw [kif_t ⟨h6, by rw [e]; exact kbits_two _ (by omega) i hi lt z⟩]
      · rw [kif_f h6, ob h6]
        unfold sOwI sOwnN
        rw [kif_f (fun y => h6 y.1), b2]
        by_cases y : v 6 = 1 ∧ v (34 + 9 * sBest v (sSetI v q h f i : Int) i + 2) < v (34 + 9 * (i : Int) + 2)
        · rw [kif_t (Or.inr y), kif_t y]
        · rw [kif_f (fun u => u.elim (nz z) y), kif_f y]
