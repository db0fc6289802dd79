theorem mul_mn {a b M N : Int} (ha : -M ≤ a ∧ a ≤ M) (hb : -N ≤ b ∧ b ≤ N) : -(M * N) ≤ a * b ∧ a * b ≤ M * N := by
  have e1 : (M - a) * (N - b) = M * N - M * b - a * N + a * b := by rw [Int.sub_mul, Int.mul_sub, Int.mul_sub]; omega
  have e2 : (M + a) * (N + b) = M * N + M * b + a * N + a * b := by rw [Int.add_mul, Int.mul_add, Int.mul_add]; omega
  have e3 : (M - a) * (N + b) = M * N + M * b - a * N - a * b := by rw [Int.sub_mul, Int.mul_add, Int.mul_add]; omega
  have e4 : (M + a) * (N - b) = M * N - M * b + a * N - a * b := by rw [Int.add_mul, Int.mul_sub, Int.mul_sub]; omega
  have f1 := Int.mul_nonneg (a := M - a) (b := N - b) (by omega) (by omega)
  have f2 := Int.mul_nonneg (a := M + a) (b := N + b) (by omega) (by omega)
  have f3 := Int.mul_nonneg (a := M - a) (b := N + b) (by omega) (by omega)
  have f4 := Int.mul_nonneg (a := M + a) (b := N - b) (by omega) (by omega)
  omega
def sgn (X : Int) : Int := if 0 < X then 1 else if X < 0 then -1 else 0
theorem sgn_mul {X Y : Int} : sgn X * sgn Y < 0 ↔ X * Y < 0 := by
  unfold sgn
  rcases (show X < 0 ∨ X = 0 ∨ 0 < X by omega) with h | h | h
  · rw [if_neg (by omega), if_pos h]
    rcases (show Y < 0 ∨ Y = 0 ∨ 0 < Y by omega) with g | g | g
    · have := Int.mul_pos_of_neg_of_neg h g
      rw [if_neg (by omega), if_pos g]; omega
    · subst g; rw [Int.mul_zero]; decide
    · have := Int.mul_neg_of_neg_of_pos h g
      rw [if_pos g]; omega
  · subst h; rw [Int.zero_mul]
    rw [if_neg (by omega), if_neg (by omega), Int.zero_mul]
  · rw [if_pos h]
    rcases (show Y < 0 ∨ Y = 0 ∨ 0 < Y by omega) with g | g | g
    · have := Int.mul_neg_of_pos_of_neg h g
      rw [if_neg (by omega), if_pos g]; omega
    · subst g; rw [Int.mul_zero]; decide
    · have := Int.mul_pos h g
      rw [if_pos g]; omega
theorem kin2_bit {p : Int → Prop} {n a b : Nat} (hn : n ≤ 6) (ha : a < n) (hb : b < n) : kand (kand (kshr (kset p n : Int) a) (kshr (kset p n : Int) b)) 1 = kb (p a ∧ p b) := by
  have l := kset_lt8 (p := p) (n := n) (by omega)
  have l1 : kset p n / 2 ^ a ≤ kset p n := Nat.div_le_self _ _
  have l2 : kset p n / 2 ^ b ≤ kset p n := Nat.div_le_self _ _
  have l3 : kset p n / 2 ^ a &&& kset p n / 2 ^ b ≤ kset p n / 2 ^ a := Nat.and_le_left
  rw [kshr_nat (by omega) (by omega), kshr_nat (by omega) (by omega), kand_nat (by omega) (by omega)]
  show kand _ ((1 : Nat) : Int) = _
  rw [kand_nat (by omega) (by omega), Nat.and_one_is_mod]
  have e : (kset p n / 2 ^ a &&& kset p n / 2 ^ b).testBit 0 = ((kset p n).testBit a && (kset p n).testBit b) := by
    rw [Nat.testBit_and, Nat.testBit_div_two_pow, Nat.testBit_div_two_pow]; simp
  rw [Nat.testBit_zero] at e
  by_cases z : p a ∧ p b
  · rw [kb_1 z]
    rw [(kset_bit n a).2 ⟨ha, z.1⟩, (kset_bit n b).2 ⟨hb, z.2⟩] at e
    have := of_decide_eq_true e
    omega
  · rw [kb_0 z]
    have : ¬ ((kset p n / 2 ^ a &&& kset p n / 2 ^ b) % 2 = 1) := by
      intro y
      rw [decide_eq_true y] at e
      have e := e.symm
      rw [Bool.and_eq_true] at e
      exact z ⟨((kset_bit n a).1 e.1).2, ((kset_bit n b).1 e.2).2⟩
    omega
theorem P_X8_doCross {G : Kg} {σ : Kmem} {c h : Int} {a b : Nat} {v : Int → Int} {q : Int → Prop} (hc : isC c) (p : (wf v ∧ kco σ c v ∧ skR σ c v h q) ∧ sHr h ∧ (a : Int) < v 2 ∧ (b : Int) < v 2) :
    Run G WX M_X8_doCross 0 0 0 [vA G 58, vI a, vI b] σ (fun x s => x = kb (((sBorne v a h ∧ ¬ q a) ∧ sBorne v b h ∧ ¬ q b) ∧ sPts v a b h ∧ sPts v b a h) ∧ s = σ) := by
  obtain ⟨⟨w, kk, sk⟩, hh, ha, hb⟩ := p
  have w1 := wf_h w
  obtain ⟨s0, s1, s2⟩ := sk
  have sa := s2 a (by omega) ha
  have sb := s2 b (by omega) hb
  have ka := kk.2.2.1 a (by omega) ha
  have kb' := kk.2.2.1 b (by omega) hb
  have wa := w.2.2.1 a (by omega) ha
  have wb := w.2.2.1 b (by omega) hb
  have a1 := sCol_r (k := a) w ⟨by omega, ha⟩ hh
  have a2 := sRow_r (k := a) w ⟨by omega, ha⟩ hh
  have b1 := sCol_r (k := b) w ⟨by omega, hb⟩ hh
  have b2 := sRow_r (k := b) w ⟨by omega, hb⟩ hh
  refine S_X8_doCross hc ?_
  rw [s1, kin2_bit (p := fun k => sBorne v k h ∧ ¬ q k) (by omega) (by omega) (by omega)]
  simp only [sa.1, sa.2.1, sb.1, sb.2.1, ka.1.1, ka.1.2.1, kb'.1.1, kb'.1.2.1]
  have pt : ∀ x y : Int, sPts v x y h ↔ ((sCol v x h - v (34 + 9 * x)) * (v (34 + 9 * y + 1) - v (34 + 9 * x + 1)) - (sRow v x h - v (34 + 9 * x + 1)) * (v (34 + 9 * y) - v (34 + 9 * x))) * ((sCol v x h - v (34 + 9 * x)) * (sRow v y h - v (34 + 9 * x + 1)) - (sRow v x h - v (34 + 9 * x + 1)) * (sCol v y h - v (34 + 9 * x))) < 0 := fun x y => sgn_mul
  have p1 := pt a b
  have p2 := pt b a
  generalize hA : sCol v a h = Ca at *
  generalize hB : sRow v a h = Ra at *
  generalize hC : sCol v b h = Cb at *
  generalize hD : sRow v b h = Rb at *
  generalize v (34 + 9 * (a : Int)) = ca at *
  generalize v (34 + 9 * (a : Int) + 1) = ra at *
  generalize v (34 + 9 * (b : Int)) = cb at *
  generalize v (34 + 9 * (b : Int) + 1) = rb at *
  have e1 : (Ca - ca) * (Rb - ra) - (Ra - ra) * (Cb - ca) = ((Ca - ca) * (rb - ra) - (Ra - ra) * (cb - ca)) + ((Ca - ca) * (Rb - rb) - (Ra - ra) * (Cb - cb)) := by
    rw [show Rb - ra = (rb - ra) + (Rb - rb) by omega, show Cb - ca = (cb - ca) + (Cb - cb) by omega, Int.mul_add, Int.mul_add]; omega
  have e2 : (Cb - cb) * (ra - rb) - (Rb - rb) * (ca - cb) = -((Cb - cb) * (rb - ra) - (Rb - rb) * (cb - ca)) := by
    rw [show ra - rb = -(rb - ra) by omega, show ca - cb = -(cb - ca) by omega, Int.mul_neg, Int.mul_neg]; omega
  have e3 : (Cb - cb) * (Ra - rb) - (Rb - rb) * (Ca - cb) = -(((Cb - cb) * (rb - ra) - (Rb - rb) * (cb - ca)) + ((Ca - ca) * (Rb - rb) - (Ra - ra) * (Cb - cb))) := by
    rw [show Ra - rb = (Ra - ra) - (rb - ra) by omega, show Ca - cb = (Ca - ca) - (cb - ca) by omega, Int.mul_sub (Cb - cb) (Ra - ra) (rb - ra), Int.mul_sub (Rb - rb) (Ca - ca) (cb - ca), Int.mul_comm (Cb - cb) (Ra - ra), Int.mul_comm (Rb - rb) (Ca - ca)]; omega
  rw [e1] at p1
  rw [e2, e3, Int.neg_mul_neg] at p2
  have m1 := mul_mn (a := Ca - ca) (b := rb - ra) (M := 30) (N := 30) (by omega) (by omega)
  have m2 := mul_mn (a := Ra - ra) (b := cb - ca) (M := 30) (N := 30) (by omega) (by omega)
  have m3 := mul_mn (a := Ca - ca) (b := Rb - rb) (M := 30) (N := 30) (by omega) (by omega)
  have m4 := mul_mn (a := Ra - ra) (b := Cb - cb) (M := 30) (N := 30) (by omega) (by omega)
  have m5 := mul_mn (a := Cb - cb) (b := rb - ra) (M := 30) (N := 30) (by omega) (by omega)
  have m6 := mul_mn (a := Rb - rb) (b := cb - ca) (M := 30) (N := 30) (by omega) (by omega)
  generalize (Ca - ca) * (rb - ra) = z1 at *
  generalize (Ra - ra) * (cb - ca) = z2 at *
  generalize (Ca - ca) * (Rb - rb) = z3 at *
  generalize (Ra - ra) * (Cb - cb) = z4 at *
  generalize (Cb - cb) * (rb - ra) = z5 at *
  generalize (Rb - rb) * (cb - ca) = z6 at *
  have n1 := mul_mn (a := z1 - z2) (b := (z1 - z2) + (z3 - z4)) (M := 1800) (N := 3600) (by omega) (by omega)
  have n2 := mul_mn (a := z5 - z6) (b := (z5 - z6) + (z3 - z4)) (M := 1800) (N := 3600) (by omega) (by omega)
  refine ⟨kb_r _, fun u => ⟨s0, by omega, s0, by omega, by omega, by omega, by omega, by omega, by omega, fun u1 => ⟨(kb_0 (fun y => ?_)).symm, trivial⟩, fun u1 => ⟨by omega, fun u2 => ⟨(kb_0 (fun y => ?_)).symm, trivial⟩, fun u2 => ⟨(kb_1 ⟨kb_t u, p1.2 u1, p2.2 u2⟩).symm, trivial⟩⟩⟩, fun u => ⟨(kb_0 (fun y => kb_f u y.1)).symm, trivial⟩⟩
  · have := p1.1 y.2.1; omega
  · have := p2.1 y.2.2; omega
/-- the kites of the sky that are up -/
def sAlf (v : Int → Int) (q : Int → Prop) (h k : Int) : Prop := sBorne v k h ∧ ¬ q k
/-- a loses its string to b -/
def sLose (v : Int → Int) (q : Int → Prop) (h a b : Int) : Prop := ((sAlf v q h a ∧ sAlf v q h b) ∧ sPts v a b h ∧ sPts v b a h) ∧ v (34 + 9 * a + 3) ≤ v (34 + 9 * b + 3)
/-- what the loops behind (a, b) have gathered -/
def sGat (v : Int → Int) (q : Int → Prop) (h : Int) (a b : Int) (k : Int) : Prop := ∃ x y : Int, (0 ≤ x ∧ x < y ∧ y < v 2) ∧ (x < a ∨ x = a ∧ y < b) ∧ (k = x ∧ sLose v q h x y ∨ k = y ∧ sLose v q h y x)
theorem P_X8_shorterOf {G : Kg} {σ : Kmem} {c : Int} {a b : Nat} {v : Int → Int} (hc : isC c) (p : (wf v ∧ kco σ c v ∧ σ 58 0 = c) ∧ (a : Int) < v 2 ∧ (b : Int) < v 2) :
    Run G WX M_X8_shorterOf 0 0 0 [vA G 58, vI a, vI b] σ (fun x s => x = (if v (34 + 9 * (a : Int) + 3) = v (34 + 9 * (b : Int) + 3) then kor (kshl 1 a) (kshl 1 b) else if v (34 + 9 * (a : Int) + 3) < v (34 + 9 * (b : Int) + 3) then kshl 1 a else kshl 1 b) ∧ s = σ) := by
  obtain ⟨⟨w, kk, s0⟩, ha, hb⟩ := p
  have w1 := wf_h w
  have ka := kk.2.2.1 a (by omega) ha
  have kb' := kk.2.2.1 b (by omega) hb
  have wa := w.2.2.1 a (by omega) ha
  have wb := w.2.2.1 b (by omega) hb
  refine S_X8_shorterOf hc ⟨s0, by omega, s0, by omega, by omega, fun h => ⟨fun h2 => ⟨?_, rfl⟩, fun h2 => ⟨?_, rfl⟩⟩, fun h => ⟨?_, rfl⟩⟩
  · rw [if_neg (by omega), if_neg (by omega)]
  · rw [if_neg (by omega), if_pos (by omega)]
  · rw [if_pos (by omega)]
