/-! bits of small numbers -/
theorem ki_bv {a : Nat} : (Int32.ofInt (a : Int)).toBitVec = BitVec.ofNat 32 a := by
  show BitVec.ofInt 32 (a : Int) = _
  exact BitVec.ofInt_natCast 32 a
theorem bv_toInt {x : BitVec 32} (h : x.toNat < 2147483648) : x.toInt = (x.toNat : Int) := by
  rw [BitVec.toInt_eq_toNat_cond]
  split <;> omega
theorem kand_nat {a b : Nat} (ha : a < 2147483648) (hb : b < 2147483648) : kand a b = ((a &&& b : Nat) : Int) := by
  unfold kand
  show (Int32.toBitVec _).toInt = _
  rw [Int32.toBitVec_and, ki_bv, ki_bv]
  have e : (BitVec.ofNat 32 a &&& BitVec.ofNat 32 b).toNat = a &&& b := by
    rw [BitVec.toNat_and, BitVec.toNat_ofNat, BitVec.toNat_ofNat, Nat.mod_eq_of_lt (by omega), Nat.mod_eq_of_lt (by omega)]
  have l : a &&& b ≤ a := Nat.and_le_left
  rw [bv_toInt (by omega), e]
theorem kor_nat {a b : Nat} (ha : a < 2147483648) (hb : b < 2147483648) : kor a b = ((a ||| b : Nat) : Int) := by
  unfold kor
  show (Int32.toBitVec _).toInt = _
  rw [Int32.toBitVec_or, ki_bv, ki_bv]
  have e : (BitVec.ofNat 32 a ||| BitVec.ofNat 32 b).toNat = a ||| b := by
    rw [BitVec.toNat_or, BitVec.toNat_ofNat, BitVec.toNat_ofNat, Nat.mod_eq_of_lt (by omega), Nat.mod_eq_of_lt (by omega)]
  have l : a ||| b < 2 ^ 31 := Nat.or_lt_two_pow (by omega) (by omega)
  rw [bv_toInt (by omega), e]
theorem kshl_nat {a k : Nat} (hk : k < 31) (ha : a * 2 ^ k < 2147483648) : kshl a k = ((a * 2 ^ k : Nat) : Int) := by
  have h1 : 1 ≤ 2 ^ k := Nat.one_le_two_pow
  have ha2 : a < 2147483648 := Nat.lt_of_le_of_lt (Nat.le_mul_of_pos_right a h1) ha
  unfold kshl
  have e1 : Int32.ofInt (k : Int) &&& 31 = Int32.ofInt (k : Int) := by
    apply Int32.toBitVec_inj.mp
    rw [Int32.toBitVec_and, ki_bv]
    have : ∀ k : Nat, k < 31 → BitVec.ofNat 32 k &&& (31 : Int32).toBitVec = BitVec.ofNat 32 k := by decide +kernel
    exact this k hk
  rw [e1]
  show (Int32.toBitVec _).toInt = _
  rw [Int32.toBitVec_shiftLeft, ki_bv, ki_bv]
  have e2 : ((BitVec.ofNat 32 k).smod 32) = BitVec.ofNat 32 k := by
    have : ∀ k : Nat, k < 31 → ((BitVec.ofNat 32 k).smod 32) = BitVec.ofNat 32 k := by decide +kernel
    exact this k hk
  rw [e2]
  have e3 : (BitVec.ofNat 32 a <<< BitVec.ofNat 32 k).toNat = a * 2 ^ k := by
    rw [BitVec.shiftLeft_eq', BitVec.toNat_shiftLeft, BitVec.toNat_ofNat, BitVec.toNat_ofNat, Nat.mod_eq_of_lt (a := k) (by omega), Nat.mod_eq_of_lt (a := a) (by omega), Nat.shiftLeft_eq, Nat.mod_eq_of_lt (by omega)]
  rw [bv_toInt (by omega), e3]
theorem kshr_nat {a k : Nat} (hk : k < 31) (ha : a < 2147483648) : kshr a k = ((a / 2 ^ k : Nat) : Int) := by
  unfold kshr
  have e1 : Int32.ofInt (k : Int) &&& 31 = Int32.ofInt (k : Int) := by
    apply Int32.toBitVec_inj.mp
    rw [Int32.toBitVec_and, ki_bv]
    have : ∀ k : Nat, k < 31 → BitVec.ofNat 32 k &&& (31 : Int32).toBitVec = BitVec.ofNat 32 k := by decide +kernel
    exact this k hk
  rw [e1]
  show (Int32.toBitVec _).toInt = _
  rw [Int32.toBitVec_shiftRight, ki_bv, ki_bv]
  have e2 : ((BitVec.ofNat 32 k).smod 32) = BitVec.ofNat 32 k := by
    have : ∀ k : Nat, k < 31 → ((BitVec.ofNat 32 k).smod 32) = BitVec.ofNat 32 k := by decide +kernel
    exact this k hk
  rw [e2]
  have hm : (BitVec.ofNat 32 a).msb = false := by
    rw [BitVec.msb_eq_decide, BitVec.toNat_ofNat, Nat.mod_eq_of_lt (by omega)]
    simp; omega
  have e3 : ((BitVec.ofNat 32 a).sshiftRight' (BitVec.ofNat 32 k)).toNat = a / 2 ^ k := by
    rw [BitVec.sshiftRight', BitVec.sshiftRight_eq_of_msb_false hm, BitVec.toNat_ushiftRight, BitVec.toNat_ofNat, BitVec.toNat_ofNat, Nat.mod_eq_of_lt (a := k) (by omega), Nat.mod_eq_of_lt (a := a) (by omega), Nat.shiftRight_eq_div_pow]
  have l : a / 2 ^ k ≤ a := Nat.div_le_self _ _
  rw [bv_toInt (by omega), e3]
/-- is k in the set -/
def sIn (set k : Int) : Prop := set.toNat.testBit k.toNat = true
theorem sIn_nat {a k : Nat} : sIn a k ↔ a.testBit k = true := by unfold sIn; simp
theorem kin_bit {set k : Int} (hs : 0 ≤ set ∧ set < 65536) (hk : 0 ≤ k ∧ k < 31) : kand (kshr set k) 1 = kb (sIn set k) := by
  obtain ⟨a, rfl⟩ := Int.eq_ofNat_of_zero_le hs.1
  obtain ⟨n, rfl⟩ := Int.eq_ofNat_of_zero_le hk.1
  have l : a / 2 ^ n ≤ a := Nat.div_le_self _ _
  rw [kshr_nat (by omega) (by omega)]
  show kand _ ((1 : Nat) : Int) = _
  rw [kand_nat (by omega) (by omega), Nat.and_one_is_mod]
  have e : a.testBit n = decide (a / 2 ^ n % 2 = 1) := Nat.testBit_eq_decide_div_mod_eq
  by_cases h : a.testBit n = true
  · rw [kb_1 (sIn_nat.mpr h)]
    rw [e] at h
    have := of_decide_eq_true h
    omega
  · rw [kb_0 (fun q => h (sIn_nat.mp q))]
    rw [e] at h
    have : ¬ (a / 2 ^ n % 2 = 1) := fun q => h (decide_eq_true q)
    omega
/-! sets by a property -/
theorem kset_lt {p : Int → Prop} : ∀ n : Nat, kset p n < 2 ^ n
  | 0 => Nat.zero_lt_one
  | n + 1 => by
    have h := kset_lt (p := p) n
    have e : (2 : Nat) ^ (n + 1) = 2 ^ n + 2 ^ n := by rw [Nat.pow_succ]; omega
    unfold kset
    by_cases q : p n
    · rw [kif_t q]; omega
    · rw [kif_f q]; omega
theorem kset_bit {p : Int → Prop} : ∀ (n k : Nat), (kset p n).testBit k = true ↔ k < n ∧ p k
  | 0, k => by simp [kset]
  | n + 1, k => by
    have hl := kset_lt (p := p) n
    have ih := kset_bit (p := p) n k
    unfold kset
    by_cases q : p n
    · rw [kif_t q, Nat.add_comm]
      rcases Nat.lt_trichotomy k n with h1 | h1 | h1
      · rw [Nat.testBit_two_pow_add_gt h1, ih]
        constructor
        · intro h; exact ⟨by omega, h.2⟩
        · intro h; exact ⟨h1, h.2⟩
      · subst h1
        rw [Nat.testBit_two_pow_add_eq, Nat.testBit_lt_two_pow hl]
        constructor
        · intro _; exact ⟨by omega, q⟩
        · intro _; rfl
      · have e : (2 : Nat) ^ (n + 1) = 2 ^ n + 2 ^ n := by rw [Nat.pow_succ]; omega
        have e2 : (2 : Nat) ^ (n + 1) ≤ 2 ^ k := Nat.pow_le_pow_right (by decide) (by omega)
        rw [Nat.testBit_lt_two_pow (by omega)]
        constructor
        · intro h; cases h
        · intro h; omega
    · rw [kif_f q, Nat.add_zero, ih]
      constructor
      · intro h; exact ⟨by omega, h.2⟩
      · intro h
        refine ⟨?_, h.2⟩
        rcases Nat.lt_or_ge k n with h1 | h1
        · exact h1
        · have e : k = n := by omega
          rw [e] at h
          exact absurd h.2 q
theorem kset_ext {p q : Int → Prop} : ∀ n : Nat, (∀ k : Nat, k < n → (p k ↔ q k)) → kset p n = kset q n
  | 0, _ => rfl
  | n + 1, h => by
    unfold kset
    rw [kset_ext n (fun k hk => h k (by omega))]
    have := h n (by omega)
    by_cases z : p n
    · rw [kif_t z, kif_t (this.mp z)]
    · rw [kif_f z, kif_f (fun y => z (this.mpr y))]
theorem kset_lt8 {p : Int → Prop} {n : Nat} (h : n ≤ 12) : kset p n < 4096 := Nat.lt_of_lt_of_le (kset_lt n) (Nat.pow_le_pow_right (by decide) h)
/-- one more comes to the set -/
theorem kor_set {p : Int → Prop} {n : Nat} (h : n < 16) : kor (kset p n : Int) (kshl 1 n) = ((kset p n + 2 ^ n : Nat) : Int) := by
  have h1 : kset p n < 2 ^ n := kset_lt n
  have h2 : (2 : Nat) ^ n ≤ 2 ^ 15 := Nat.pow_le_pow_right (by decide) (by omega)
  have e0 : (2 : Nat) ^ 15 = 32768 := by decide
  have e : kshl 1 n = ((2 ^ n : Nat) : Int) := by
    have := kshl_nat (a := 1) (k := n) (by omega) (by omega)
    rw [Nat.one_mul] at this
    exact this
  rw [e, kor_nat (by omega) (by omega)]
  congr 1
  rw [Nat.or_comm, Nat.add_comm]
  exact (Nat.two_pow_add_eq_or_of_lt h1 1 |> fun q => by simpa using q.symm)
theorem kor_0 {a : Nat} (h : a < 65536) : kor (a : Int) 0 = a := by
  have := kor_nat (a := a) (b := 0) (by omega) (by omega)
  rw [Nat.or_zero] at this
  exact this
theorem kset_step {p : Int → Prop} {n : Nat} {i : Int} (hi : i = n) (h : n < 16) (x : Int) (hx : x = kif (p i) (kshl 1 i) 0) : kor (kset p n : Int) x = (kset p (n + 1) : Int) := by
  subst hi
  subst hx
  have h1 : kset p n < 2 ^ n := kset_lt n
  have h2 : (2 : Nat) ^ n ≤ 2 ^ 15 := Nat.pow_le_pow_right (by decide) (by omega)
  have e0 : (2 : Nat) ^ 15 = 32768 := by decide
  show _ = ((kset p n + kif (p n) (2 ^ n) 0 : Nat) : Int)
  by_cases q : p n
  · rw [kif_t q, kif_t q]; exact kor_set h
  · rw [kif_f q, kif_f q]; exact kor_0 (by omega)
