/-! the class settles its tenants -/
def msk (S : Nat) (t : Int) : Prop := 0 ≤ t ∧ S.testBit t.toNat = true
theorem bit_big {S y : Nat} (h : S < 64) (hy : 6 ≤ y) : S.testBit y = false := Nat.testBit_lt_two_pow (Nat.lt_of_lt_of_le h (Nat.pow_le_pow_right (n := 2) (by decide) hy))
theorem bit_sub : ∀ S : Nat, S < 64 → ∀ x : Nat, x < 6 → S.testBit x = true → 2 ^ x ≤ S ∧ ∀ y : Nat, y < 6 → (S - 2 ^ x).testBit y = (S.testBit y && decide (y ≠ x)) := by decide +kernel
theorem bit_add : ∀ S : Nat, S < 64 → ∀ x : Nat, x < 6 → S.testBit x = false → S ||| 2 ^ x = S + 2 ^ x ∧ S + 2 ^ x < 64 ∧ (S + 2 ^ x).testBit x = true := by decide +kernel
theorem bit_has : ∀ S : Nat, S < 64 → S ≠ 0 → ∃ t : Nat, t < 6 ∧ S.testBit t = true := by decide +kernel
theorem bit_cnt : ∀ n : Nat, n < 6 → ∀ a : Nat, a < 2 ^ n → kbits (a + 2 ^ n) = kbits a + 1 := by decide +kernel
theorem bit_and : ∀ n : Nat, n < 64 → ∀ i : Nat, i < 6 → n &&& 2 ^ i = (n.testBit i).toNat * 2 ^ i := by decide +kernel
theorem kbits_kset {p : Int → Prop} : ∀ n : Nat, n ≤ 6 → (kbits (kset p n) : Int) = kcn p n
  | 0, _ => by show ((kbits 0 : Nat) : Int) = 0; decide
  | n + 1, h => by
    have e : kset p (n + 1) = kset p n + kif (p n) (2 ^ n) 0 := rfl
    rw [kcn_s, ← kbits_kset n (by omega), e]
    by_cases q : p n
    · rw [kif_t q, kb_1 q, bit_cnt n (by omega) _ (kset_lt n)]; omega
    · rw [kif_f q, kb_0 q, Nat.add_zero]; omega
theorem msk_sub {S x : Nat} (h : S < 64) (hx : x < 6) (hb : S.testBit x = true) (t : Int) : msk (S - 2 ^ x) t ↔ msk S t ∧ t ≠ x := by
  have b := bit_sub S h x hx hb
  unfold msk
  by_cases t0 : 0 ≤ t
  · by_cases t6 : t < 6
    · rw [b.2 t.toNat (by omega)]
      constructor
      · intro z
        have := z.2
        simp only [Bool.and_eq_true, decide_eq_true_eq] at this
        exact ⟨⟨t0, this.1⟩, by omega⟩
      · intro z
        refine ⟨t0, ?_⟩
        simp only [Bool.and_eq_true, decide_eq_true_eq]
        exact ⟨z.1.2, by omega⟩
    · rw [bit_big (Nat.lt_of_le_of_lt (Nat.sub_le _ _) h) (by omega), bit_big h (by omega)]
      exact ⟨fun z => absurd z.2 (by decide), fun z => absurd z.1.2 (by decide)⟩
  · exact ⟨fun z => absurd z.1 t0, fun z => absurd z.1.1 t0⟩
theorem mAble_F {A : Int → Int → Prop} {F F' X : Int → Prop} (h : ∀ t f, A t f → (F f ↔ F' f)) : mAble A F X ↔ mAble A F' X :=
  ⟨fun ⟨g, g1, g2⟩ => ⟨g, fun t z => ⟨(h _ _ (g1 t z).2).1 (g1 t z).1, (g1 t z).2⟩, g2⟩, fun ⟨g, g1, g2⟩ => ⟨g, fun t z => ⟨(h _ _ (g1 t z).2).2 (g1 t z).1, (g1 t z).2⟩, g2⟩⟩
theorem mAble_X {A : Int → Int → Prop} {F X Y : Int → Prop} (h : ∀ t, X t ↔ Y t) : mAble A F X ↔ mAble A F Y := by
  have : X = Y := by funext t; exact propext (h t)
  rw [this]
theorem mAble_one {A : Int → Int → Prop} {F X : Int → Prop} {f : Int} (hf : ¬ F f) : mAble A (fun g => F g ∨ g = f) X ↔ mAble A F X ∨ ∃ i, X i ∧ A i f ∧ mAble A F (fun t => X t ∧ t ≠ i) := by
  constructor
  · rintro ⟨g, g1, g2⟩
    by_cases e : ∃ i, X i ∧ g i = f
    · obtain ⟨i, i1, i2⟩ := e
      refine Or.inr ⟨i, i1, by rw [← i2]; exact (g1 i i1).2, g, fun t ht => ?_, fun t s ht hs => g2 t s ht.1 hs.1⟩
      have := g1 t ht.1
      exact ⟨this.1.resolve_right (fun e => ht.2 (g2 t i ht.1 i1 (by rw [e, i2]))), this.2⟩
    · exact Or.inl ⟨g, fun t ht => ⟨(g1 t ht).1.resolve_right (fun z => e ⟨t, ht, z⟩), (g1 t ht).2⟩, g2⟩
  · rintro (⟨g, g1, g2⟩ | ⟨i, i1, i2, g, g1, g2⟩)
    · exact ⟨g, fun t ht => ⟨Or.inl (g1 t ht).1, (g1 t ht).2⟩, g2⟩
    · refine ⟨fun t => if t = i then f else g t, fun t ht => ?_, fun t s ht hs e => ?_⟩
      · show (F (if t = i then f else g t) ∨ (if t = i then f else g t) = f) ∧ A t (if t = i then f else g t)
        by_cases e : t = i
        · rw [if_pos e, e]; exact ⟨Or.inr rfl, i2⟩
        · rw [if_neg e]; exact ⟨Or.inl (g1 t ⟨ht, e⟩).1, (g1 t ⟨ht, e⟩).2⟩
      · have e : (if t = i then f else g t) = (if s = i then f else g s) := e
        by_cases e1 : t = i
        · by_cases e2 : s = i
          · omega
          · rw [if_pos e1, if_neg e2] at e
            have := (g1 s ⟨hs, e2⟩).1
            rw [← e] at this; exact absurd this hf
        · by_cases e2 : s = i
          · rw [if_neg e1, if_pos e2] at e
            have := (g1 t ⟨ht, e1⟩).1
            rw [e] at this; exact absurd this hf
          · rw [if_neg e1, if_neg e2] at e
            exact g2 t s ⟨ht, e1⟩ ⟨hs, e2⟩ e
theorem kand_take {a b i : Nat} (ha : a < 64) (hb : b < 64) (hi : i < 6) : kand (kand (a : Int) (kxor (b : Int) (-1))) (kshl 1 (i : Int)) = kb (a.testBit i = true ∧ b.testBit i = false) * 2 ^ i := by
  have e1 : kshl 1 (i : Int) = ((2 ^ i : Nat) : Int) := (kshl1 (by omega)).1
  have p6 : 2 ^ i ≤ 2 ^ 5 := Nat.pow_le_pow_right (by decide) (by omega)
  rw [e1, kand_bv (by omega)]
  have la : a &&& (BitVec.ofInt 32 (kxor (b : Int) (-1))).toNat ≤ a := Nat.and_le_left
  rw [kand_nat (by omega) (by omega), bit_and _ (by omega) i hi, Nat.testBit_and, kxor_bit i (by omega) (by omega)]
  by_cases h : a.testBit i = true ∧ b.testBit i = false
  · rw [kb_1 h, h.1, h.2]
    show (((true && !false).toNat * 2 ^ i : Nat) : Int) = 1 * 2 ^ i
    simp
  · rw [kb_0 h]
    have : (a.testBit i && !b.testBit i) = false := by
      cases h1 : a.testBit i <;> cases h2 : b.testBit i <;> simp_all
    rw [this]
    simp
/-- what is settled in the midst of an offer -/
def mPr (T : Int) (old : Nat → Prop) (tk : Nat → Prop) (s i : Int) (S : Nat) : Prop := old S ∨ ∃ x : Nat, ((x : Int) < T ∧ S.testBit x = true) ∧ tk x ∧ old (S - 2 ^ x) ∧ (s < ((S - 2 ^ x : Nat) : Int) ∨ (((S - 2 ^ x : Nat) : Int) = s ∧ (x : Int) < i))
theorem P_X5_offerField {G : Kg} {σ : Kmem} {c r st : Int} {v : Int → Int} {F : Int → Prop} (p : (wf v ∧ kco σ 31 v) ∧ sFld v c r ∧ (0 ≤ st ∧ st ≤ 20) ∧ σ 63 (r * 9 + c) = sOwn v c r (v 7 % 12) ∧ ¬ F (10 * r + c) ∧ ∀ S : Nat, S < 64 → σ 88 S = kb (mAble (sFor v st) F (msk S))) :
    Run G WX M_X5_offerField 2 0 0 [vA G 82, vI c, vI r, vI st] σ (fun x s => x = 0 ∧ kfm (fun x => x = 88) s σ ∧ ∀ S : Nat, S < 64 → s 88 S = kb (mAble (sFor v st) (fun g => F g ∨ g = 10 * r + c) (msk S))) := by
  obtain ⟨⟨w, kk⟩, hf, hs, ho, hF, h88⟩ := p
  have w1 := wf_h w
  have kh := kco_h kk
  have own := sOwn_r (v := v) (c := c) (r := r) (h := v 7 % 12) w
  have e10 : (10 * r + c) % 10 = c ∧ (10 * r + c) / 10 = r := by omega
  have noA : sOwn v c r (v 7 % 12) = -1 → ∀ i, ¬ sFor v st i (10 * r + c) := fun e i h => by
    have := h.2.2.2.1
    rw [e10.1, e10.2, e] at this
    have := (w.2.2.2.2 i h.1.1 h.1.2).2.2.1
    omega
  have stp : ∀ S : Nat, mAble (sFor v st) (fun g => F g ∨ g = 10 * r + c) (msk S) ↔ mAble (sFor v st) F (msk S) ∨ ∃ i, msk S i ∧ sFor v st i (10 * r + c) ∧ mAble (sFor v st) F (fun t => msk S t ∧ t ≠ i) := fun S => mAble_one hF
  refine S_X5_offerField ⟨by omega, by omega, fun n => ?_, fun e => ⟨rfl, kfm.refl, fun S hS => ?_⟩⟩
  rotate_left
  · rw [h88 S hS]
    rw [ho] at e
    exact kb_iff ⟨fun z => (stp S).2 (Or.inl z), fun z => ((stp S).1 z).resolve_right (fun ⟨i, _, i2, _⟩ => noA e i i2)⟩
  rw [ho]
  generalize hQ : (fun (x : Int) (s : Kmem) => x = 0 ∧ kfm (fun x => x = 88) s σ ∧ ∀ S : Nat, S < 64 → s 88 S = kb (mAble (sFor v st) (fun g => F g ∨ g = 10 * r + c) (msk S))) = Q
  have sT : ∀ i : Nat, (i : Int) < v 4 → (sFor v st i (10 * r + c) ↔ v (120 + 5 * (i : Int) + 2) = sOwn v c r (v 7 % 12) ∧ kabs (c - v (120 + 5 * (i : Int))) + kabs (r - v (120 + 5 * (i : Int) + 1)) ≤ st) := by
    intro i hi
    unfold sFor sDist
    rw [e10.1, e10.2, kabs_neg (a := v (120 + 5 * (i : Int))) (b := c), kabs_neg (a := v (120 + 5 * (i : Int) + 1)) (b := r)]
    exact ⟨fun z => ⟨z.2.2.2.1.symm, z.2.2.2.2⟩, fun z => ⟨by omega, ⟨by omega, by omega⟩, hf, z.1.symm, z.2⟩⟩
  refine kloopS (E := fun i a => E_X5_offerField_24 G c r st (sOwn v c r (v 7 % 12)) a i σ Q) (p := fun i => sFor v st i (10 * r + c)) (N := (v 4).toNat) (by omega) (fun i a hi ha he hss hn hz => S_X5_offerField_24 ⟨by omega, by omega, fun q => ?_, fun q => ?_⟩)
  rotate_left
  · have kt := kk.2.2.2.2 i (by omega) (by omega)
    have wt := w.2.2.2.2 i (by omega) (by omega)
    rw [kt.1.1, kt.1.2, kt.2.1]
    have bc := kabs_u (a := c - v (120 + 5 * (i : Int))) (b := 20) ⟨by omega, by omega⟩
    have br := kabs_u (a := r - v (120 + 5 * (i : Int) + 1)) (b := 20) ⟨by omega, by omega⟩
    have bc0 := kabs_r (a := c - v (120 + 5 * (i : Int)))
    have br0 := kabs_r (a := r - v (120 + 5 * (i : Int) + 1))
    have st' := sT i (by omega)
    exact ⟨by omega, by omega, by omega, fun z => hz (by omega) (fun y => z (st'.1 y).1), fun z => ⟨by omega, by omega, by omega, by omega, by omega, fun z2 => hz (by omega) (fun y => by have := (st'.1 y).2; omega), fun z2 => hss (by omega) (st'.2 ⟨z, z2⟩)⟩⟩
  have ei : i = (v 4).toNat := by omega
  have he := he ei
  rw [he]
  have tl : kset (fun i => sFor v st i (10 * r + c)) (v 4).toNat < 64 := Nat.lt_of_lt_of_le (kset_lt _) (Nat.pow_le_pow_right (n := 2) (by decide) (by omega : (v 4).toNat ≤ 6))
  have tb : ∀ x : Nat, (kset (fun i => sFor v st i (10 * r + c)) (v 4).toNat).testBit x = true ↔ sFor v st x (10 * r + c) := fun x => by
    rw [kset_bit]
    exact ⟨fun z => z.2, fun z => ⟨by have := z.1; omega, z⟩⟩
  generalize hTK : kset (fun i => sFor v st i (10 * r + c)) (v 4).toNat = TK at *
  let old : Nat → Prop := fun S => mAble (sFor v st) F (msk S)
  let tk : Nat → Prop := fun x => sFor v st x (10 * r + c)
  have fin : ∀ S : Nat, S < 64 → (mPr (v 4) old tk (-1) 0 S ↔ mAble (sFor v st) (fun g => F g ∨ g = 10 * r + c) (msk S)) := by
    intro S hS
    rw [stp S]
    constructor
    · rintro (z | ⟨x, x1, x2, x3, -⟩)
      · exact Or.inl z
      · refine Or.inr ⟨x, ⟨by omega, by rw [Int.toNat_natCast]; exact x1.2⟩, x2, ?_⟩
        exact (mAble_X (msk_sub hS (by omega) x1.2)).1 x3
    · rintro (z | ⟨x, x1, x2, x3⟩)
      · exact Or.inl z
      · have x0 := x2.1
        obtain ⟨n, rfl⟩ := Int.eq_ofNat_of_zero_le x0.1
        have bn : S.testBit n = true := by have := x1.2; rw [Int.toNat_natCast] at this; exact this
        exact Or.inr ⟨n, ⟨x0.2, bn⟩, x2, (mAble_X (msk_sub hS (by omega) bn)).2 x3, Or.inl (by omega)⟩
  have low : ∀ S x : Nat, S < 64 → x < 6 → S.testBit x = true → (S - 2 ^ x) + 2 ^ x = S ∧ 1 ≤ 2 ^ x := fun S x a b c => by
    have := (bit_sub S a x b c).1
    have := Nat.one_le_two_pow (n := x)
    omega
  have down : ∀ (m : Nat) (s : Int) (u : Kmem), s + 1 ≤ m → -1 ≤ s → s < 64 → kfm (fun x => x = 88) u σ → (∀ S : Nat, S < 64 → u 88 S = kb (mPr (v 4) old tk s 0 S)) → E_X5_offerField_97 G TK s u Q := by
    intro m
    induction m with
    | zero =>
      intro s u hm h0 h64 fu hu
      have e : s = -1 := by omega
      subst e
      refine S_X5_offerField_97 (l1 := 0) (l2 := 0) (l3 := 0) ⟨by decide, fun _ => ?_, fun y => by omega⟩
      rw [← hQ]
      exact ⟨rfl, fu, fun S hS => by rw [hu S hS]; exact kb_iff (fin S hS)⟩
    | succ m ih =>
      intro s u hm h0 h64 fu hu
      refine S_X5_offerField_97 (l1 := 0) (l2 := 0) (l3 := 0) ⟨by omega, fun y => ?_, fun y => ?_⟩
      · have e : s = -1 := by omega
        subst e
        rw [← hQ]
        exact ⟨rfl, fu, fun S hS => by rw [hu S hS]; exact kb_iff (fin S hS)⟩
      obtain ⟨sn, rfl⟩ := Int.eq_ofNat_of_zero_le y
      have snl : sn < 64 := by omega
      -- the set itself is as it was
      have own_s : ∀ (i : Int) , mPr (v 4) old tk sn i sn ↔ old sn := by
        intro i
        constructor
        · rintro (z | ⟨x, x1, x2, x3, x4⟩)
          · exact z
          · have := low sn x snl (by omega) x1.2
            omega
        · exact Or.inl
      have skip : ∀ (i : Int) (S : Nat), ¬ old sn → (mPr (v 4) old tk sn i S ↔ mPr (v 4) old tk ((sn : Int) + -1) 0 S) := by
        intro i S no
        constructor
        · rintro (z | ⟨x, x1, x2, x3, x4⟩)
          · exact Or.inl z
          · refine Or.inr ⟨x, x1, x2, x3, Or.inl (by omega)⟩
        · rintro (z | ⟨x, x1, x2, x3, x4⟩)
          · exact Or.inl z
          · refine Or.inr ⟨x, x1, x2, x3, Or.inl ?_⟩
            by_cases e : S - 2 ^ x = sn
            · rw [e] at x3; exact absurd x3 no
            · omega
      have done : ∀ (i : Int) (S : Nat), v 4 ≤ i → (mPr (v 4) old tk sn i S ↔ mPr (v 4) old tk ((sn : Int) + -1) 0 S) := by
        intro i S hi
        constructor
        · rintro (z | ⟨x, x1, x2, x3, x4⟩)
          · exact Or.inl z
          · exact Or.inr ⟨x, x1, x2, x3, Or.inl (by omega)⟩
        · rintro (z | ⟨x, x1, x2, x3, x4⟩)
          · exact Or.inl z
          · refine Or.inr ⟨x, x1, x2, x3, ?_⟩
            by_cases e : S - 2 ^ x = sn
            · exact Or.inr ⟨by rw [e], by omega⟩
            · exact Or.inl (by omega)
      have inner : ∀ (k : Nat) (i : Nat) (y : Kmem), i + k = (v 4).toNat → kfm (fun x => x = 88) y σ → (∀ S : Nat, S < 64 → y 88 S = kb (mPr (v 4) old tk sn i S)) → E_X5_offerField_105 G TK sn i y Q := by
        intro k
        induction k with
        | zero =>
          intro i y hk fy hy
          have y7 : y 31 7 = v 4 := by rw [fy 31 (by omega)]; exact kh.2.2.2.2
          have ys : rI (y 88 sn) := by rw [hy sn snl]; exact kb_r _
          refine S_X5_offerField_105 (l1 := 0) (l2 := 0) (l3 := 0) ⟨by omega, ys, fun z => ih _ _ (by omega) (by omega) (by omega) fy (fun S hS => ?_), fun z => ⟨by omega, by omega, fun z2 => ih _ _ (by omega) (by omega) (by omega) fy (fun S hS => ?_), fun z2 => by omega⟩⟩
          · rw [hy S hS]; exact kb_iff (done _ S (by omega))
          · rw [hy S hS]; exact kb_iff (done _ S (by omega))
        | succ k jh =>
          intro i y hk fy hy
          have y7 : y 31 7 = v 4 := by rw [fy 31 (by omega)]; exact kh.2.2.2.2
          have ys : y 88 sn = kb (old sn) := by rw [hy sn snl]; exact kb_iff (own_s _)
          have kt := kand_take (a := TK) (b := sn) (i := i) tl snl (by omega)
          have p6 : 2 ^ i ≤ 2 ^ 5 := Nat.pow_le_pow_right (by decide) (by omega)
          have p0 := Nat.one_le_two_pow (n := i)
          have pc : ((2 : Int) ^ i) = ((2 ^ i : Nat) : Int) := by rw [Int.natCast_pow]; rfl
          refine S_X5_offerField_105 (l1 := 0) (l2 := 0) (l3 := 0) ⟨by omega, by rw [ys]; exact kb_r _, fun z => ih _ _ (by omega) (by omega) (by omega) fy (fun S hS => ?_), fun z => ⟨by omega, by omega, fun z2 => by omega, fun z2 => ?_⟩⟩
          · rw [ys] at z
            rw [hy S hS]; exact kb_iff (skip _ S (kb_f z))
          · rw [ys] at z
            have os := kb_t z
            rw [kt, pc]
            by_cases h : TK.testBit i = true ∧ sn.testBit i = false
            · rw [kb_1 h]
              have ba := bit_add sn snl i (by omega) h.2
              have ek : kor (sn : Int) (kshl 1 (i : Int)) = ((sn + 2 ^ i : Nat) : Int) := by
                rw [(kshl1 (i := i) (by omega)).1, kor_nat (by omega) (by omega), ba.1]
              rw [ek]
              refine ⟨by omega, fun z3 => by omega, fun _ => ⟨by omega, ?_⟩⟩
              have := jh (i + 1) (kup y 88 ((sn + 2 ^ i : Nat) : Int) 1) (by omega) (kfm_at.trans fy) (fun S hS => ?_)
              · exact this
              · by_cases e : S = sn + 2 ^ i
                · rw [e, kup_at]
                  refine (kb_1 (Or.inr ⟨i, ⟨by omega, ba.2.2⟩, (tb i).1 h.1, ?_, Or.inr ⟨?_, by omega⟩⟩)).symm
                  · rw [Nat.add_sub_cancel]; exact os
                  · rw [Nat.add_sub_cancel]
                · rw [kup_j (by omega), hy S hS]
                  refine kb_iff ⟨?_, ?_⟩
                  · rintro (z | ⟨x, x1, x2, x3, x4⟩)
                    · exact Or.inl z
                    · exact Or.inr ⟨x, x1, x2, x3, by omega⟩
                  · rintro (z | ⟨x, x1, x2, x3, x4⟩)
                    · exact Or.inl z
                    · refine Or.inr ⟨x, x1, x2, x3, ?_⟩
                      by_cases ex : x = i
                      · subst ex
                        have := low S x hS (by omega) x1.2
                        omega
                      · omega
            · rw [kb_0 h]
              refine ⟨by omega, fun _ => ?_, fun z3 => by omega⟩
              have := jh (i + 1) y (by omega) fy (fun S hS => ?_)
              · exact this
              · rw [hy S hS]
                refine kb_iff ⟨?_, ?_⟩
                · rintro (z | ⟨x, x1, x2, x3, x4⟩)
                  · exact Or.inl z
                  · exact Or.inr ⟨x, x1, x2, x3, by omega⟩
                · rintro (z | ⟨x, x1, x2, x3, x4⟩)
                  · exact Or.inl z
                  · refine Or.inr ⟨x, x1, x2, x3, ?_⟩
                    by_cases ex : x = i
                    · subst ex
                      have ls := low S x hS (by omega) x1.2
                      by_cases es : S - 2 ^ x = sn
                      · refine absurd ⟨(tb x).2 x2, ?_⟩ h
                        have := (bit_sub S hS x (by omega) x1.2).2 x (by omega)
                        rw [es] at this
                        rw [this]; simp
                      · omega
                    · omega
      have := inner (v 4).toNat 0 u (by omega) fu hu
      exact this
  refine down 64 (64 - 1) σ (by omega) (by omega) (by omega) kfm.refl (fun S hS => ?_)
  rw [h88 S hS]
  refine kb_iff ⟨Or.inl, ?_⟩
  rintro (z | ⟨x, x1, x2, x3, x4⟩)
  · exact z
  · have := Nat.sub_le S (2 ^ x); omega
