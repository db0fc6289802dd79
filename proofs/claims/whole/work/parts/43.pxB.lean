theorem kxor_bit {a : Nat} (x : Nat) (hx : x < 32) (ha : a < 4294967296) : (BitVec.ofInt 32 (kxor a (-1))).toNat.testBit x = !a.testBit x := by
  unfold kxor
  show (BitVec.ofInt 32 ((Int32.ofInt (a : Int) ^^^ Int32.ofInt (-1)).toBitVec.toInt)).toNat.testBit x = _
  rw [BitVec.ofInt_toInt, Int32.toBitVec_xor, ki_bv, BitVec.toNat_xor, Nat.testBit_xor, BitVec.toNat_ofNat, Nat.mod_eq_of_lt (by omega)]
  have e : (Int32.ofInt (-1)).toBitVec.toNat = 2 ^ 32 - 1 := by decide
  rw [e, Nat.testBit_two_pow_sub_one, decide_eq_true hx, Bool.xor_true]
theorem kand_diff {p q : Int → Prop} {W : Nat} (hW : W ≤ 12) : kand (kset p W : Int) (kxor (kset q W : Int) (-1)) = (kset (fun x => p x ∧ ¬ q x) W : Int) := by
  have b1 := ksetW (p := p) hW
  have b2 := ksetW (p := q) hW
  rw [kand_bv (by omega)]
  congr 1
  apply Nat.eq_of_testBit_eq
  intro x
  rw [Nat.testBit_and, Bool.eq_iff_iff, Bool.and_eq_true, kset_bit, kset_bit]
  constructor
  · rintro ⟨⟨h1, h2⟩, h3⟩
    rw [kxor_bit x (by omega) (by omega), Bool.not_eq_true'] at h3
    refine ⟨h1, h2, fun z => ?_⟩
    have := (kset_bit W x).2 ⟨h1, z⟩
    rw [this] at h3; cases h3
  · rintro ⟨h1, h2, h3⟩
    refine ⟨⟨h1, h2⟩, ?_⟩
    rw [kxor_bit x (by omega) (by omega), Bool.not_eq_true']
    cases h : (kset q W).testBit x
    · rfl
    · exact absurd ((kset_bit W x).1 h).2 h3
theorem kloopP {α : Type} {E : Int → α → Prop} (I : Nat → α → Prop) (N : Nat) (H : ∀ (i : Nat) (τ : α), i ≤ N → I i τ → (i < N → ∀ τ', I (i + 1) τ' → E ((i : Int) + 1) τ') → E (i : Int) τ) {τ : α} (h0 : I 0 τ) : E 0 τ := by
  have q : ∀ (m i : Nat) (τ : α), i + m = N → I i τ → E (i : Int) τ := by
    intro m
    induction m with
    | zero => intro i τ hi hI; exact H i τ (by omega) hI (fun h => absurd h (by omega))
    | succ m ih => intro i τ hi hI; exact H i τ (by omega) hI (fun _ τ' h' => ih (i + 1) τ' (by omega) h')
  exact q N 0 τ (by omega) h0
/-- the sky's cells -/
abbrev sky1 (x : Int) : Prop := 58 ≤ x ∧ x ≤ 61
abbrev sky2 (x : Int) : Prop := 58 ≤ x ∧ x ≤ 63
/-- the kites of v stand in the sky as in hour h; those of q are not up -/
def skR (σ : Kmem) (c : Int) (v : Int → Int) (h : Int) (q : Int → Prop) : Prop := σ 58 0 = c ∧ σ 58 1 = (kset (fun k => sBorne v k h ∧ ¬ q k) (v 2).toNat : Int) ∧ ∀ k, 0 ≤ k → k < v 2 → σ 59 k = sCol v k h ∧ σ 60 k = sRow v k h ∧ σ 61 k = sSz v k h
theorem isC_r {c : Int} (h : isC c) : (5 ≤ c ∧ c + 26 ≤ 58) ∨ 106 ≤ c := by
  unfold isC at h; omega
theorem kst2_d {d : Int} (h : 0 ≤ d ∧ d < 8) : kst2 d = sDx d := by
  have : ∀ d : Fin 8, kst2 (d.val : Int) = sDx (d.val : Int) := by decide
  have := this ⟨d.toNat, by omega⟩
  rw [show (((⟨d.toNat, by omega⟩ : Fin 8).val : Nat) : Int) = d from by show ((d.toNat : Nat) : Int) = d; omega] at this
  exact this
theorem kst3_d {d : Int} (h : 0 ≤ d ∧ d < 8) : kst3 d = sDy d := by
  have : ∀ d : Fin 8, kst3 (d.val : Int) = sDy (d.val : Int) := by decide
  have := this ⟨d.toNat, by omega⟩
  rw [show (((⟨d.toNat, by omega⟩ : Fin 8).val : Nat) : Int) = d from by show ((d.toNat : Nat) : Int) = d; omega] at this
  exact this
theorem kfm_kup {A : Int → Prop} {σ : Kmem} {x j y : Int} (h : A x) : kfm A (kup σ x j y) σ := fun z hz => by
  funext a; exact kup_x (fun e => hz (by rw [e]; exact h))
theorem P_X8_raise {G : Kg} {σ : Kmem} {c h l3 : Int} {v : Int → Int} {q : Int → Prop} (hc : isC c) (p : wf v ∧ kco σ c v ∧ sHr h ∧ l3 = (kset q (v 2).toNat : Int)) : Run G WX M_X8_raise 1 0 0 [vA G 58, vA G c, vI h, vI l3] σ (fun x s => x = 0 ∧ kfm sky1 s σ ∧ skR s c v h q) := by
  obtain ⟨w, k, hh, rfl⟩ := p
  have k1 := kco_h k
  have w1 := wf_h w
  have cr := isC_r hc
  have hh1 := hh.1
  have hh2 := hh.2
  have kw := k.2.1 h hh1 hh2
  have ww := w.2.1 h hh1 hh2
  refine S_X8_raise hc ⟨by omega, by omega, ?_⟩
  rw [kup_x (by omega), kup_x (by omega), kup_x (by omega), kup_x (by omega), kw.1, kw.2]
  refine kloopP (E := fun i τ => E_X8_raise_29 G c h (kset q (v 2).toNat : Int) (v (10 + 2 * h + 1)) (v (10 + 2 * h)) i τ (fun x s => x = 0 ∧ kfm sky1 s σ ∧ skR s c v h q)) (fun i τ => kfm sky1 τ σ ∧ τ 58 0 = c ∧ τ 58 1 = (kset (fun k => sBorne v k h) i : Int) ∧ ∀ k, 0 ≤ k → k < (i : Int) → τ 59 k = sCol v k h ∧ τ 60 k = sRow v k h ∧ τ 61 k = sSz v k h) (v 2).toNat (fun i τ hi hI ih => S_X8_raise_29 hc ?_) ?_
  · obtain ⟨f, i0, i1, i2⟩ := hI
    have kk := kco_kfm w k f (fun x a b z => by have := z.1; have := z.2; omega)
    have kk1 := kco_h kk
    refine ⟨by omega, by omega, fun z => ⟨rfl, ?_, ?_, ?_, ?_⟩, fun z => ?_⟩
    · exact (kfm_kup ⟨by omega, by omega⟩).trans f
    · rw [kup_j (by omega)]; exact i0
    · rw [kup_at, i1, show i = (v 2).toNat by omega]; exact kand_diff (by omega)
    · intro k a b
      rw [kup_x (by omega), kup_x (by omega), kup_x (by omega)]; exact i2 k a (by omega)
    · have ki := kk.2.2.1 i (by omega) (by omega)
      have wi := w.2.2.1 i (by omega) (by omega)
      obtain ⟨⟨e1, e2, e3⟩, ⟨e4, e5, e7⟩, e8, e6, e9⟩ := ki
      have m := mul_bd (a := v (34 + 9 * i + 3)) (b := v (10 + 2 * h + 1)) (A := 9) (B := 3) (by omega) (by omega)
      have t : 0 ≤ (v (10 + 2 * h) + v (34 + 9 * i + 7)) % 8 ∧ (v (10 + 2 * h) + v (34 + 9 * i + 7)) % 8 < 8 := by omega
      have E1 : v (34 + 9 * i) + kst2 ((v (10 + 2 * h) + v (34 + 9 * i + 7)) % 8) * (v (34 + 9 * i + 3) * v (10 + 2 * h + 1) / 3) = sCol v i h := by rw [kst2_d t, Int.mul_comm (sDx _)]; rfl
      have E2 : v (34 + 9 * i + 1) + kst3 ((v (10 + 2 * h) + v (34 + 9 * i + 7)) % 8) * (v (34 + 9 * i + 3) * v (10 + 2 * h + 1) / 3) = sRow v i h := by rw [kst3_d t, Int.mul_comm (sDy _)]; rfl
      have ih := ih (by omega)
      have nx : ∀ (z : Int) (up : Int), z = sSz v i h → up = (kset (fun k => sBorne v k h) (i + 1) : Int) → ∀ τ' : Kmem, kfm sky1 τ' σ → τ' 58 0 = c → τ' 58 1 = up → (∀ k, 0 ≤ k → k < (i : Int) → τ' 59 k = τ 59 k ∧ τ' 60 k = τ 60 k ∧ τ' 61 k = τ 61 k) → (τ' 59 i = sCol v i h ∧ τ' 60 i = sRow v i h ∧ τ' 61 i = z) → E_X8_raise_29 G c h (kset q (v 2).toNat : Int) (v (10 + 2 * h + 1)) (v (10 + 2 * h)) ((i : Int) + 1) τ' (fun x s => x = 0 ∧ kfm sky1 s σ ∧ skR s c v h q) := by
        intro z up hz hup τ' a1 a2 a3 a4 a5
        refine ih τ' ⟨a1, a2, a3.trans hup, fun k b1 b2 => ?_⟩
        by_cases e : k = i
        · rw [e]; exact ⟨a5.1, a5.2.1, a5.2.2.trans hz⟩
        · have := a4 k b1 (by omega)
          have j := i2 k b1 (by omega)
          rw [this.1, this.2.1, this.2.2]; exact j
      have up0 : ¬ sBorne v i h → τ 58 1 = (kset (fun k => sBorne v k h) (i + 1) : Int) := by
        intro b
        rw [kset_n (by omega) b, i1, kor_0 (by have := kset_lt8 (p := fun k => sBorne v k h) (n := i) (by omega); omega)]
      have up1 : sBorne v i h → kor (τ 58 1) (kshl 1 i) = (kset (fun k => sBorne v k h) (i + 1) : Int) := by
        intro b
        rw [kset_s (by omega) b, i1]
      simp (disch := omega) only [kup_x, kup_j, kup_at, e1, e2, e3, e4, e5, e6, kk1.1.2.2.1, E1, E2]
      refine ⟨by omega, by omega, by omega, t, by omega, t, by omega, by omega, by omega, fun h2 => ⟨by omega, by omega, by omega, fun h3 => ?_, fun h3 => ?_⟩, fun h2 => ⟨by omega, by omega, by omega, by omega, fun h3 => ?_, fun h3 => ?_⟩⟩
      · refine nx _ _ (by unfold sSz; rw [if_neg h2]) (up0 (by unfold sBorne; omega)) _ ((kfm_kup ⟨by omega, by omega⟩).trans ((kfm_kup ⟨by omega, by omega⟩).trans ((kfm_kup ⟨by omega, by omega⟩).trans f))) ?_ ?_ (fun k b1 b2 => ?_) ?_
        · simp (disch := omega) only [kup_x, kup_j, kup_at]; exact i0
        · simp (disch := omega) only [kup_x, kup_j, kup_at]
        · simp (disch := omega) only [kup_x, kup_j, kup_at, and_self]
        · simp (disch := omega) only [kup_x, kup_j, kup_at, and_self]
      · refine nx _ _ (by unfold sSz; rw [if_neg h2]) (up1 (by unfold sBorne; omega)) _ ((kfm_kup ⟨by omega, by omega⟩).trans ((kfm_kup ⟨by omega, by omega⟩).trans ((kfm_kup ⟨by omega, by omega⟩).trans ((kfm_kup ⟨by omega, by omega⟩).trans f)))) ?_ ?_ (fun k b1 b2 => ?_) ?_
        · simp (disch := omega) only [kup_x, kup_j, kup_at]; exact i0
        · simp (disch := omega) only [kup_x, kup_j, kup_at]
        · simp (disch := omega) only [kup_x, kup_j, kup_at, and_self]
        · simp (disch := omega) only [kup_x, kup_j, kup_at, and_self]
      · refine nx _ _ (by unfold sSz; rw [if_pos h2]) (up0 (by unfold sBorne; omega)) _ ((kfm_kup ⟨by omega, by omega⟩).trans ((kfm_kup ⟨by omega, by omega⟩).trans ((kfm_kup ⟨by omega, by omega⟩).trans f))) ?_ ?_ (fun k b1 b2 => ?_) ?_
        · simp (disch := omega) only [kup_x, kup_j, kup_at]; exact i0
        · simp (disch := omega) only [kup_x, kup_j, kup_at]
        · simp (disch := omega) only [kup_x, kup_j, kup_at, and_self]
        · simp (disch := omega) only [kup_x, kup_j, kup_at, and_self]
      · refine nx _ _ (by unfold sSz; rw [if_pos h2]) (up1 (by unfold sBorne; omega)) _ ((kfm_kup ⟨by omega, by omega⟩).trans ((kfm_kup ⟨by omega, by omega⟩).trans ((kfm_kup ⟨by omega, by omega⟩).trans ((kfm_kup ⟨by omega, by omega⟩).trans f)))) ?_ ?_ (fun k b1 b2 => ?_) ?_
        · simp (disch := omega) only [kup_x, kup_j, kup_at]; exact i0
        · simp (disch := omega) only [kup_x, kup_j, kup_at]
        · simp (disch := omega) only [kup_x, kup_j, kup_at, and_self]
        · simp (disch := omega) only [kup_x, kup_j, kup_at, and_self]
  · refine ⟨fun x hx => ?_, ?_, ?_, fun k a b => by omega⟩
    · exact ((kfm_kup (A := sky1) ⟨by omega, by omega⟩).trans (kfm_kup ⟨by omega, by omega⟩)) x hx
    · rw [kup_j (by omega), kup_at]
    · rw [kup_at]; rfl
