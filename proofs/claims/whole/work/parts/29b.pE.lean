theorem ksetW {p : Int → Prop} {W : Nat} (hW : W ≤ 12) : kset p W < 4096 := kset_lt8 hW
/-- one more in the set -/
theorem kor_ins {p : Int → Prop} {W i : Nat} (hW : W ≤ 12) (hi : i < W) : kor (kset p W : Int) (kshl 1 i) = (kset (fun x => p x ∨ x = i) W : Int) := by
  have e : kshl 1 (i : Int) = ((1 * 2 ^ i : Nat) : Int) := kshl_nat (a := 1) (by omega) (by
    have := Nat.pow_le_pow_right (n := 2) (by decide) (show i ≤ 12 by omega)
    omega)
  have b1 := ksetW (p := p) hW
  have b2 := Nat.pow_le_pow_right (n := 2) (by decide) (show i ≤ 12 by omega)
  rw [e, kor_nat (by omega) (by omega)]
  congr 1
  apply Nat.eq_of_testBit_eq
  intro x
  rw [Nat.testBit_or, Nat.one_mul, Nat.testBit_two_pow]
  rw [Bool.eq_iff_iff, Bool.or_eq_true, kset_bit, kset_bit, decide_eq_true_eq]
  constructor
  · rintro (⟨h1, h2⟩ | h)
    · exact ⟨h1, Or.inl h2⟩
    · exact ⟨by omega, Or.inr (by omega)⟩
  · rintro ⟨h1, h2 | h2⟩
    · exact Or.inl ⟨h1, h2⟩
    · exact Or.inr (by omega)
theorem kor_none {p : Int → Prop} {W : Nat} (hW : W ≤ 12) : kor (kset p W : Int) 0 = (kset p W : Int) := kor_0 (by have := ksetW (p := p) hW; omega)
theorem kset_trim {p q : Int → Prop} {W n : Nat} (hn : n ≤ W) (h : ∀ k : Nat, k < W → (p k ↔ k < n ∧ q k)) : kset p W = kset q n := by
  apply Nat.eq_of_testBit_eq
  intro x
  rw [Bool.eq_iff_iff, kset_bit, kset_bit]
  constructor
  · rintro ⟨h1, h2⟩; exact (h x h1).1 h2
  · rintro ⟨h1, h2⟩; exact ⟨by omega, (h x (by omega)).2 ⟨h1, h2⟩⟩
theorem kset_none {p : Int → Prop} {W : Nat} (h : ∀ k : Nat, k < W → ¬ p k) : kset p W = 0 := by
  rw [kset_trim (q := fun _ => True) (n := 0) (by omega) (fun k hk => ⟨fun z => absurd z (h k hk), fun z => absurd z.1 (by omega)⟩)]; rfl
theorem knot_bits : ∀ i : Nat, i < 16 → ∀ x : Nat, x < 16 → (BitVec.ofInt 32 (kxor (kshl 1 i) (-1))).toNat.testBit x = decide (x ≠ i) := by decide +kernel
theorem kand_bv {a : Nat} {y : Int} (ha : a < 2147483648) : kand a y = ((a &&& (BitVec.ofInt 32 y).toNat : Nat) : Int) := by
  unfold kand
  show (Int32.toBitVec _).toInt = _
  rw [Int32.toBitVec_and, ki_bv]
  have e : (BitVec.ofNat 32 a &&& BitVec.ofInt 32 y).toNat = a &&& (BitVec.ofInt 32 y).toNat := by
    rw [BitVec.toNat_and, BitVec.toNat_ofNat, Nat.mod_eq_of_lt (by omega)]
  have l : a &&& (BitVec.ofInt 32 y).toNat ≤ a := Nat.and_le_left
  show (BitVec.ofNat 32 a &&& BitVec.ofInt 32 y).toInt = _
  rw [bv_toInt (by omega), e]
/-- one less in the set -/
theorem kand_rem {p : Int → Prop} {W i : Nat} (hW : W ≤ 12) (hi : i < 16) : kand (kset p W : Int) (kxor (kshl 1 i) (-1)) = (kset (fun x => p x ∧ x ≠ i) W : Int) := by
  have b1 := ksetW (p := p) hW
  rw [kand_bv (by omega)]
  congr 1
  apply Nat.eq_of_testBit_eq
  intro x
  rw [Nat.testBit_and, Bool.eq_iff_iff, Bool.and_eq_true, kset_bit, kset_bit]
  constructor
  · rintro ⟨⟨h1, h2⟩, h3⟩
    rw [knot_bits i hi x (by omega), decide_eq_true_eq] at h3
    exact ⟨h1, h2, by omega⟩
  · rintro ⟨h1, h2, h3⟩
    refine ⟨⟨h1, h2⟩, ?_⟩
    rw [knot_bits i hi x (by omega), decide_eq_true_eq]; omega
def sDm (v : Int → Int) (a b : Int) : Prop := a ≠ b ∧ sX v a b (v 7 % 12) ∧ v (34 + 9 * a + 3) ≤ v (34 + 9 * b + 3)
def sDoom (v : Int → Int) (a : Int) : Prop := ∃ b, (0 ≤ b ∧ b < v 2) ∧ sDm v a b
noncomputable def sDooms (v : Int → Int) : Nat := kset (sDoom v) (v 2).toNat
theorem P_X12_doomedNow {G : Kg} {σ : Kmem} (w : wf (σ 1)) : Run G WM M_X12_doomedNow 6 0 0 [vA G 0] σ (fun x s => x = (sDooms (σ 1) : Int) ∧ s = σ) := by
  have w1 := wf_h w
  refine S_X12_doomedNow ?_
  have e0 : (0 : Int) = (kset (fun x => x < ((0 : Nat) : Int) ∧ sDoom (σ 1) x) (σ 1 2).toNat : Int) := by
    rw [kset_none (fun k _ z => by have := z.1; omega)]; rfl
  have s0 : E_X12_doomedNow_4 G (kset (fun x => x < ((0 : Nat) : Int) ∧ sDoom (σ 1) x) (σ 1 2).toNat : Int) 0 σ (fun x s => x = (sDooms (σ 1) : Int) ∧ s = σ) := by
    refine kloop (E := fun i a => E_X12_doomedNow_4 G a i σ (fun x s => x = (sDooms (σ 1) : Int) ∧ s = σ)) (fun i => (kset (fun x => x < (i : Int) ∧ sDoom (σ 1) x) (σ 1 2).toNat : Int)) (σ 1 2).toNat (fun i hi ih => S_X12_doomedNow_4 ⟨by omega, by omega, fun q => ⟨?_, rfl⟩, fun q => ?_⟩)
    · congr 1
      exact kset_trim (by omega) (fun k hk => ⟨fun z => ⟨hk, z.2⟩, fun z => ⟨by omega, z.2⟩⟩)
    · have ki := w.2.2.1 i (by omega) q
      have ih := ih (by omega)
      have s1 : E_X12_doomedNow_16 G (kset (fun x => x < (i : Int) ∧ sDoom (σ 1) x ∨ x = i ∧ ∃ b, (0 ≤ b ∧ b < ((0 : Nat) : Int)) ∧ sDm (σ 1) i b) (σ 1 2).toNat : Int) i 0 σ (fun x s => x = (sDooms (σ 1) : Int) ∧ s = σ) := by
        refine kloop (E := fun j a => E_X12_doomedNow_16 G a i j σ (fun x s => x = (sDooms (σ 1) : Int) ∧ s = σ)) (fun j => (kset (fun x => x < (i : Int) ∧ sDoom (σ 1) x ∨ x = i ∧ ∃ b, (0 ≤ b ∧ b < (j : Int)) ∧ sDm (σ 1) i b) (σ 1 2).toNat : Int)) (σ 1 2).toNat (fun j hj jh => S_X12_doomedNow_16 ⟨by omega, by omega, fun r => ?_, fun r => ?_⟩)
        · have e : kset (fun x => x < (i : Int) ∧ sDoom (σ 1) x ∨ x = i ∧ ∃ b, (0 ≤ b ∧ b < (j : Int)) ∧ sDm (σ 1) i b) (σ 1 2).toNat = kset (fun x => x < ((i + 1 : Nat) : Int) ∧ sDoom (σ 1) x) (σ 1 2).toNat := by
            refine kset_ext _ (fun k hk => ⟨?_, ?_⟩)
            · rintro (⟨z1, z2⟩ | ⟨z1, b, z2, z3⟩)
              · exact ⟨by omega, z2⟩
              · exact ⟨by omega, b, ⟨z2.1, by omega⟩, by rw [z1]; exact z3⟩
            · rintro ⟨z1, z2⟩
              by_cases h : (k : Int) = i
              · obtain ⟨b, z3, z4⟩ := z2
                exact Or.inr ⟨h, b, ⟨z3.1, by omega⟩, by rw [h] at z4; exact z4⟩
              · exact Or.inl ⟨by omega, z2⟩
          rw [e]; exact ih
        · have kj := w.2.2.1 j (by omega) r
          have jh := jh (by omega)
          have no : ¬ sDm (σ 1) i j → E_X12_doomedNow_16 G (kor (kset (fun x => x < (i : Int) ∧ sDoom (σ 1) x ∨ x = i ∧ ∃ b, (0 ≤ b ∧ b < (j : Int)) ∧ sDm (σ 1) i b) (σ 1 2).toNat : Int) 0) i ((j : Int) + 1) σ (fun x s => x = (sDooms (σ 1) : Int) ∧ s = σ) := by
            intro h
            rw [kor_none (by omega), kset_ext (q := fun x => x < (i : Int) ∧ sDoom (σ 1) x ∨ x = i ∧ ∃ b, (0 ≤ b ∧ b < ((j + 1 : Nat) : Int)) ∧ sDm (σ 1) i b) _ (fun k hk => ⟨?_, ?_⟩)]
            · exact jh
            · rintro (z | ⟨z1, b, z2, z3⟩)
              · exact Or.inl z
              · exact Or.inr ⟨z1, b, ⟨z2.1, by omega⟩, z3⟩
            · rintro (z | ⟨z1, b, z2, z3⟩)
              · exact Or.inl z
              · by_cases e : b = j
                · rw [e] at z3; exact absurd z3 h
                · exact Or.inr ⟨z1, b, ⟨z2.1, by omega⟩, z3⟩
          have yes : sDm (σ 1) i j → E_X12_doomedNow_16 G (kor (kset (fun x => x < (i : Int) ∧ sDoom (σ 1) x ∨ x = i ∧ ∃ b, (0 ≤ b ∧ b < (j : Int)) ∧ sDm (σ 1) i b) (σ 1 2).toNat : Int) (kshl 1 i)) i ((j : Int) + 1) σ (fun x s => x = (sDooms (σ 1) : Int) ∧ s = σ) := by
            intro h
            rw [kor_ins (by omega) (by omega), kset_ext (q := fun x => x < (i : Int) ∧ sDoom (σ 1) x ∨ x = i ∧ ∃ b, (0 ≤ b ∧ b < ((j + 1 : Nat) : Int)) ∧ sDm (σ 1) i b) _ (fun k hk => ⟨?_, ?_⟩)]
            · exact jh
            · rintro ((z | ⟨z1, b, z2, z3⟩) | z)
              · exact Or.inl z
              · exact Or.inr ⟨z1, b, ⟨z2.1, by omega⟩, z3⟩
              · exact Or.inr ⟨z, j, ⟨by omega, by omega⟩, h⟩
            · rintro (z | ⟨z1, b, z2, z3⟩)
              · exact Or.inl (Or.inl z)
              · exact Or.inr z1
          refine ⟨by omega, fun h => no (fun z => z.1 h), fun h => ⟨by omega, Run.mono (P_X12_doCross ⟨w, ⟨by omega, q⟩, ⟨by omega, r⟩, by omega, by omega⟩) (fun x s z => ?_)⟩⟩
          obtain ⟨rfl, rfl⟩ := z
          refine ⟨kb_r _, fun h2 => no (fun z => kb_f h2 z.2.1), fun h2 => ⟨by omega, by omega, by omega, by omega, fun h3 => no (fun z => by have := z.2.2; omega), fun h3 => yes ⟨h, kb_t h2, h3⟩⟩⟩
      have e : (kset (fun x => x < (i : Int) ∧ sDoom (σ 1) x ∨ x = i ∧ ∃ b, (0 ≤ b ∧ b < ((0 : Nat) : Int)) ∧ sDm (σ 1) i b) (σ 1 2).toNat) = kset (fun x => x < (i : Int) ∧ sDoom (σ 1) x) (σ 1 2).toNat := by
        refine kset_ext _ (fun k hk => ⟨?_, fun z => Or.inl z⟩)
        rintro (z | ⟨z1, b, z2, z3⟩)
        · exact z
        · exact absurd z2 (by omega)
      rw [e] at s1; exact s1
  rw [← e0] at s0; exact s0
