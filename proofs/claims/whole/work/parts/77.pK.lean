/-! seasons, as they are kept in the vector: v 8 their lines, each at 150 + 6 k -/
def pOp (o : Int) : Prop := o = 21 ∨ 2024 ≤ o
def pLn (v : Int → Int) (k : Int) : Prop := ((15 ≤ (v (150 + 6 * k)) ∧ (v (150 + 6 * k)) ≤ 23 ∧ (v (150 + 6 * k)) ≠ 20) ∨ (2024 ≤ (v (150 + 6 * k)) ∧ (v (150 + 6 * k)) ≤ 2026)) ∧ ((v (150 + 6 * k)) = 15 → 1 ≤ v (150 + 6 * k + 1) ∧ v (150 + 6 * k + 1) ≤ 3) ∧ ((16 ≤ (v (150 + 6 * k)) ∧ (v (150 + 6 * k)) ≤ 19) ∨ (v (150 + 6 * k)) = 2024 ∨ (v (150 + 6 * k)) = 2026 → sKt v (v (150 + 6 * k + 1))) ∧ ((v (150 + 6 * k)) = 16 → 1 ≤ v (150 + 6 * k + 2) ∧ v (150 + 6 * k + 2) ≤ 4) ∧ ((v (150 + 6 * k)) = 2025 → 0 ≤ v (150 + 6 * k + 1) ∧ v (150 + 6 * k + 1) < v 3) ∧ ((v (150 + 6 * k)) = 2024 → (0 ≤ v (150 + 6 * k + 2) ∧ v (150 + 6 * k + 2) ≤ 9999) ∧ (60 ≤ v (150 + 6 * k + 5) ∧ v (150 + 6 * k + 5) ≤ 62)) ∧ ((v (150 + 6 * k)) = 21 → 1 ≤ v (150 + 6 * k + 1) ∧ v (150 + 6 * k + 1) ≤ 99) ∧ (pOp ((v (150 + 6 * k))) → (k < (v (150 + 6 * k + 4)) ∧ (v (150 + 6 * k + 4)) < v 8) ∧ (v (150 + 6 * ((v (150 + 6 * k + 4))))) = 22 ∧ (v (150 + 6 * ((v (150 + 6 * k + 4))) + 4)) = k) ∧ ((v (150 + 6 * k)) = 22 → (0 ≤ (v (150 + 6 * k + 4)) ∧ (v (150 + 6 * k + 4)) < k) ∧ pOp ((v (150 + 6 * ((v (150 + 6 * k + 4)))))) ∧ (v (150 + 6 * ((v (150 + 6 * k + 4))) + 4)) = k)
def pwf (v : Int → Int) : Prop := (-1 ≤ v 8 ∧ v 8 ≤ 60) ∧ (∀ k, 0 ≤ k → k < v 8 → pLn v k) ∧ ∀ o b, 0 ≤ o → o < b → b < (v (150 + 6 * o + 4)) → pOp ((v (150 + 6 * o))) → pOp ((v (150 + 6 * b))) → b < v 8 → (v (150 + 6 * b + 4)) < (v (150 + 6 * o + 4))
def pEq (u v : Int → Int) : Prop := (u 8 = v 8 ∧ u 2 = v 2 ∧ u 3 = v 3) ∧ ∀ j, 150 ≤ j → j < 514 → u j = v j
theorem pEq.refl {u : Int → Int} : pEq u u := ⟨⟨rfl, rfl, rfl⟩, fun _ _ _ => rfl⟩
theorem pEq.trans {u v w : Int → Int} (h : pEq u v) (g : pEq v w) : pEq u w := ⟨⟨h.1.1.trans g.1.1, h.1.2.1.trans g.1.2.1, h.1.2.2.trans g.1.2.2⟩, fun j a b => (h.2 j a b).trans (g.2 j a b)⟩
theorem pEq.symm {u v : Int → Int} (h : pEq u v) : pEq v u := ⟨⟨h.1.1.symm, h.1.2.1.symm, h.1.2.2.symm⟩, fun j a b => (h.2 j a b).symm⟩
theorem pwf_eq {u v : Int → Int} (h : pEq u v) (p : pwf v) : pwf u := by
  obtain ⟨⟨h8, h2, h3⟩, hj⟩ := h
  obtain ⟨p1, p2, p3⟩ := p
  refine ⟨by rw [h8]; exact p1, fun k a b => ?_, fun o b a1 a2 a3 a4 a5 a6 => ?_⟩
  · rw [h8] at b
    have q := p2 k a b
    have e0 := hj (150 + 6 * k) (by omega) (by omega)
    have e1 := hj (150 + 6 * k + 1) (by omega) (by omega)
    have e2 := hj (150 + 6 * k + 2) (by omega) (by omega)
    have e4 := hj (150 + 6 * k + 4) (by omega) (by omega)
    have e5 := hj (150 + 6 * k + 5) (by omega) (by omega)
    obtain ⟨q1, q2, q3, q4, q5, q6, q7, q8, q9⟩ := q
    refine ⟨by rw [e0]; exact q1, by rw [e0, e1]; exact q2, by rw [e0, e1]; unfold sKt; rw [h2]; exact q3, by rw [e0, e2]; exact q4, by rw [e0, e1, h3]; exact q5, by rw [e0, e2, e5]; exact q6, by rw [e0, e1]; exact q7, fun z => ?_, fun z => ?_⟩
    · rw [e0] at z
      have q8 := q8 z
      rw [e4, h8, hj (150 + 6 * (v (150 + 6 * k + 4))) (by omega) (by omega), hj (150 + 6 * (v (150 + 6 * k + 4)) + 4) (by omega) (by omega)]
      exact q8
    · rw [e0] at z
      have q9 := q9 z
      rw [e4, hj (150 + 6 * (v (150 + 6 * k + 4))) (by omega) (by omega), hj (150 + 6 * (v (150 + 6 * k + 4)) + 4) (by omega) (by omega)]
      exact q9
  · rw [h8] at a6
    rw [hj (150 + 6 * o + 4) (by omega) (by omega)] at a3 ⊢
    rw [hj (150 + 6 * o) (by omega) (by omega)] at a4
    rw [hj (150 + 6 * b) (by omega) (by omega)] at a5
    rw [hj (150 + 6 * b + 4) (by omega) (by omega)]
    exact p3 o b a1 a2 a3 a4 a5 a6
theorem pEq_far {u v : Int → Int} (h : kfar u v) (g : ∀ j, 0 ≤ j → j < 34 → j ≠ 7 → u j = v j) : pEq u v := ⟨⟨g 8 (by omega) (by omega) (by omega), g 2 (by omega) (by omega) (by omega), g 3 (by omega) (by omega) (by omega)⟩, fun j a b => h j (by omega)⟩
/-! ends -/
noncomputable def sEnd1 (v : Int → Int) (a : Int × (Int → Int)) : Int × (Int → Int) := kif ((v (150 + 6 * ((v (150 + 6 * a.1 + 4))))) = 21 ∧ 0 < a.2 ((v (150 + 6 * a.1 + 4)))) ((v (150 + 6 * a.1 + 4)) + 1, ku a.2 ((v (150 + 6 * a.1 + 4))) (a.2 ((v (150 + 6 * a.1 + 4))) - 1)) (a.1 + 1, a.2)
abbrev pEd (v : Int → Int) (k : Int) : Prop := k < v 8 ∧ (v (150 + 6 * k)) = 22
noncomputable def sEnds (v : Int → Int) : Nat → Int × (Int → Int) → Int × (Int → Int)
  | 0, a => a
  | n + 1, a => kif (pEd v a.1) (sEnds v n (sEnd1 v a)) a
/-- loops may go on so often -/
def lpR (lp : Int → Int) : Prop := ∀ o, 0 ≤ o → o < 80 → 0 ≤ lp o ∧ lp o ≤ 98
noncomputable def sMu (v : Int → Int) (a : Int × (Int → Int)) : Int := kif (pEd v a.1) (1 + (v 8 - a.1) + kif ((v (150 + 6 * a.1 + 4)) + 1 = a.1 ∧ (v (150 + 6 * ((v (150 + 6 * a.1 + 4))))) = 21) (a.2 ((v (150 + 6 * a.1 + 4)))) 0) 0
theorem sEnd1_ok {v : Int → Int} {a : Int × (Int → Int)} (p : pwf v) (h0 : 0 ≤ a.1) (hl : lpR a.2) (he : pEd v a.1) : (0 ≤ (sEnd1 v a).1 ∧ (sEnd1 v a).1 ≤ v 8) ∧ lpR (sEnd1 v a).2 ∧ 0 ≤ sMu v (sEnd1 v a) ∧ sMu v (sEnd1 v a) < sMu v a := by
  obtain ⟨p1, p2, p3⟩ := p
  obtain ⟨he1, he2⟩ := he
  have pk := (p2 a.1 h0 he1).2.2.2.2.2.2.2.2 he2
  obtain ⟨k1, k2, k3⟩ := pk
  have lo := hl ((v (150 + 6 * a.1 + 4))) (by omega) (by omega)
  have mu0 : sMu v a = 1 + (v 8 - a.1) + kif ((v (150 + 6 * a.1 + 4)) + 1 = a.1 ∧ (v (150 + 6 * ((v (150 + 6 * a.1 + 4))))) = 21) (a.2 ((v (150 + 6 * a.1 + 4)))) 0 := kif_t ⟨he1, he2⟩
  unfold sEnd1
  by_cases q : (v (150 + 6 * ((v (150 + 6 * a.1 + 4))))) = 21 ∧ 0 < a.2 ((v (150 + 6 * a.1 + 4)))
  · rw [kif_t q, mu0]
    have l2 : lpR (ku a.2 ((v (150 + 6 * a.1 + 4))) (a.2 ((v (150 + 6 * a.1 + 4))) - 1)) := fun o x y => by
      by_cases e : o = (v (150 + 6 * a.1 + 4))
      · rw [e, ku_eq]; omega
      · rw [ku_ne e]; exact hl o x y
    refine ⟨⟨by show 0 ≤ (v (150 + 6 * a.1 + 4)) + 1; omega, by show (v (150 + 6 * a.1 + 4)) + 1 ≤ v 8; omega⟩, l2, ?_⟩
    by_cases e : (v (150 + 6 * a.1 + 4)) + 1 = a.1
    · rw [kif_t ⟨e, q.1⟩]
      have : sMu v ((v (150 + 6 * a.1 + 4)) + 1, ku a.2 ((v (150 + 6 * a.1 + 4))) (a.2 ((v (150 + 6 * a.1 + 4))) - 1)) = 1 + (v 8 - a.1) + (a.2 ((v (150 + 6 * a.1 + 4))) - 1) := by
        rw [e]
        show kif (pEd v a.1) (1 + (v 8 - a.1) + kif ((v (150 + 6 * a.1 + 4)) + 1 = a.1 ∧ (v (150 + 6 * ((v (150 + 6 * a.1 + 4))))) = 21) (ku a.2 ((v (150 + 6 * a.1 + 4))) (a.2 ((v (150 + 6 * a.1 + 4))) - 1) ((v (150 + 6 * a.1 + 4)))) 0) 0 = _
        rw [kif_t ⟨he1, he2⟩, kif_t ⟨e, q.1⟩, ku_eq]
      rw [this]; omega
    · have nd : ¬ pEd v ((v (150 + 6 * a.1 + 4)) + 1) := by
        rintro ⟨d1, d2⟩
        have pb := (p2 ((v (150 + 6 * a.1 + 4)) + 1) (by omega) d1).2.2.2.2.2.2.2.2 d2
        obtain ⟨b1, b2, b3⟩ := pb
        by_cases x : (v (150 + 6 * ((v (150 + 6 * a.1 + 4)) + 1) + 4)) = (v (150 + 6 * a.1 + 4))
        · rw [x] at b3; omega
        · have := p3 ((v (150 + 6 * ((v (150 + 6 * a.1 + 4)) + 1) + 4))) ((v (150 + 6 * a.1 + 4))) b1.1 (by omega) (by rw [b3]; omega) b2 k2 (by omega)
          rw [b3, k3] at this; omega
      have : sMu v ((v (150 + 6 * a.1 + 4)) + 1, ku a.2 ((v (150 + 6 * a.1 + 4))) (a.2 ((v (150 + 6 * a.1 + 4))) - 1)) = 0 := kif_f nd
      rw [this]
      have z : 0 ≤ kif ((v (150 + 6 * a.1 + 4)) + 1 = a.1 ∧ (v (150 + 6 * ((v (150 + 6 * a.1 + 4))))) = 21) (a.2 ((v (150 + 6 * a.1 + 4)))) 0 := by
        rw [kif_f (fun y => e y.1)]; omega
      omega
  · rw [kif_f q, mu0]
    refine ⟨⟨by show 0 ≤ a.1 + 1; omega, by show a.1 + 1 ≤ v 8; omega⟩, hl, ?_⟩
    have z : 0 ≤ kif ((v (150 + 6 * a.1 + 4)) + 1 = a.1 ∧ (v (150 + 6 * ((v (150 + 6 * a.1 + 4))))) = 21) (a.2 ((v (150 + 6 * a.1 + 4)))) 0 := by
      by_cases y : (v (150 + 6 * a.1 + 4)) + 1 = a.1 ∧ (v (150 + 6 * ((v (150 + 6 * a.1 + 4))))) = 21
      · rw [kif_t y]; omega
      · rw [kif_f y]; omega
    by_cases e : pEd v (a.1 + 1)
    · have : sMu v (a.1 + 1, a.2) = 1 + (v 8 - (a.1 + 1)) + kif ((v (150 + 6 * (a.1 + 1) + 4)) + 1 = a.1 + 1 ∧ (v (150 + 6 * ((v (150 + 6 * (a.1 + 1) + 4))))) = 21) (a.2 ((v (150 + 6 * (a.1 + 1) + 4)))) 0 := kif_t e
      rw [this, kif_f]
      · omega
      · rintro ⟨y1, y2⟩
        rw [show (v (150 + 6 * (a.1 + 1) + 4)) = a.1 by omega] at y2
        omega
    · have : sMu v (a.1 + 1, a.2) = 0 := kif_f e
      rw [this]; omega
theorem sMu_r {v : Int → Int} {a : Int × (Int → Int)} (p : pwf v) (h0 : 0 ≤ a.1) (hl : lpR a.2) : 0 ≤ sMu v a ∧ sMu v a ≤ 160 := by
  have p1 := p.1
  unfold sMu
  by_cases e : pEd v a.1
  · have pk := (p.2.1 a.1 h0 e.1).2.2.2.2.2.2.2.2 e.2
    have lo := hl ((v (150 + 6 * a.1 + 4))) (by omega) (by omega)
    have e1 := e.1
    rw [kif_t e]
    by_cases y : (v (150 + 6 * a.1 + 4)) + 1 = a.1 ∧ (v (150 + 6 * ((v (150 + 6 * a.1 + 4))))) = 21
    · rw [kif_t y]; omega
    · rw [kif_f y]; omega
  · rw [kif_f e]; omega
theorem sEnds_ok {v : Int → Int} (p : pwf v) : ∀ (n : Nat) (a : Int × (Int → Int)), sMu v a < n → (0 ≤ a.1 ∧ a.1 ≤ v 8) → lpR a.2 → (0 ≤ (sEnds v n a).1 ∧ (sEnds v n a).1 ≤ v 8) ∧ lpR (sEnds v n a).2 ∧ ¬ pEd v (sEnds v n a).1 ∧ ∀ m : Nat, sMu v a < m → sEnds v m a = sEnds v n a := by
  intro n
  induction n with
  | zero => intro a h h0 hl; have := sMu_r p h0.1 hl; omega
  | succ n ih =>
    intro a h h0 hl
    by_cases e : pEd v a.1
    · have ok := sEnd1_ok p h0.1 hl e
      have r := ih (sEnd1 v a) (by omega) ok.1 ok.2.1
      have e1 : sEnds v (n + 1) a = sEnds v n (sEnd1 v a) := kif_t e
      rw [e1]
      refine ⟨r.1, r.2.1, r.2.2.1, fun m hm => ?_⟩
      obtain ⟨k, rfl⟩ : ∃ k, m = k + 1 := ⟨m - 1, by omega⟩
      have e2 : sEnds v (k + 1) a = sEnds v k (sEnd1 v a) := kif_t e
      rw [e2]
      exact r.2.2.2 k (by omega)
    · have e1 : sEnds v (n + 1) a = a := kif_f e
      rw [e1]
      refine ⟨h0, hl, e, fun m hm => ?_⟩
      obtain ⟨k, rfl⟩ : ∃ k, m = k + 1 := ⟨m - 1, by have := sMu_r p h0.1 hl; omega⟩
      exact kif_f e
theorem P_X12_behindEnds {G : Kg} {σ : Kmem} {k : Int} (h : pwf (σ 1) ∧ (0 ≤ k ∧ k ≤ σ 1 8) ∧ lpR (σ 18)) : Run G WM M_X12_behindEnds 0 0 0 [vA G 0, vI k] σ (fun x s => x = (sEnds (σ 1) 200 (k, σ 18)).1 ∧ s = kst σ 18 (sEnds (σ 1) 200 (k, σ 18)).2) := by
  obtain ⟨p, hk, hl⟩ := h
  have p1 := p.1
  refine S_X12_behindEnds ?_
  have lp : ∀ (n : Nat) (k : Int) (lp : Int → Int), sMu (σ 1) (k, lp) < n → (0 ≤ k ∧ k ≤ σ 1 8) → lpR lp → ∀ K : Int × (Int → Int), sEnds (σ 1) n (k, lp) = K → E_X12_behindEnds_2 G k (kst σ 18 lp) (fun x s => x = K.1 ∧ s = kst σ 18 K.2) := by
    intro n
    induction n with
    | zero => intro k lp h h0 hl; have := sMu_r (a := (k, lp)) p h0.1 hl; omega
    | succ n ih =>
      intro k lp hm h0 hl K hK
      have e1 : (kst σ 18 lp) 1 = σ 1 := kst_ne (by omega)
      have e18 : (kst σ 18 lp) 18 = lp := kst_eq
      refine S_X12_behindEnds_2 (l1 := 0) ?_
      rw [e1, e18]
      refine ⟨by omega, by omega, fun q => ?_, fun q => ?_⟩
      · have : sEnds (σ 1) (n + 1) (k, lp) = (k, lp) := kif_f (fun y => by have := y.1; omega)
        rw [← hK, this]; exact ⟨rfl, rfl⟩
      · have ln := p.2.1 k h0.1 q
        refine ⟨by omega, by have := ln.1; omega, fun ne => ?_, fun e => ?_⟩
        · have : sEnds (σ 1) (n + 1) (k, lp) = (k, lp) := kif_f (fun y => ne y.2)
          rw [← hK, this]; exact ⟨rfl, rfl⟩
        · have eK : sEnds (σ 1) (n + 1) (k, lp) = sEnds (σ 1) n (sEnd1 (σ 1) (k, lp)) := kif_t ⟨q, e⟩
          rw [eK] at hK
          have ok := sEnd1_ok (a := (k, lp)) p h0.1 hl ⟨q, e⟩
          have pk := ln.2.2.2.2.2.2.2.2 e
          have lo := hl (((σ 1) (150 + 6 * k + 4))) (by omega) (by omega)
          have lnb := p.2.1 (((σ 1) (150 + 6 * k + 4))) (by omega) (by omega)
          have nxt := ih (sEnd1 (σ 1) (k, lp)).1 (sEnd1 (σ 1) (k, lp)).2 (by have h1 := ok.2.2.2; have h2 : sMu (σ 1) ((sEnd1 (σ 1) (k, lp)).1, (sEnd1 (σ 1) (k, lp)).2) = sMu (σ 1) (sEnd1 (σ 1) (k, lp)) := rfl; omega) ok.1 ok.2.1 K hK
          have no : ¬ (((σ 1) (150 + 6 * (((σ 1) (150 + 6 * k + 4))))) = 21 ∧ 0 < lp (((σ 1) (150 + 6 * k + 4)))) → E_X12_behindEnds_79 G k (((σ 1) (150 + 6 * k + 4))) 0 (kst σ 18 lp) (fun x s => x = K.1 ∧ s = kst σ 18 K.2) := by
            intro nn
            have e3 : sEnd1 (σ 1) (k, lp) = (k + 1, lp) := kif_f nn
            rw [e3] at nxt
            refine S_X12_behindEnds_79 (l1 := 0) ⟨by omega, by decide, fun _ => ⟨by omega, fun _ => ?_, fun h => absurd rfl h⟩, fun h => absurd rfl h⟩
            have : kup (kst σ 18 lp) 18 (((σ 1) (150 + 6 * k + 4))) ((kst σ 18 lp) 18 (((σ 1) (150 + 6 * k + 4))) - 0) = kst σ 18 lp := by
              rw [kup_st, e18, Int.sub_zero, ku_self]
            rw [this]; exact nxt
          refine ⟨by omega, by omega, by have := lnb.1; omega, fun ne => no (fun y => ne y.1), fun e21 => ⟨by omega, by omega, fun le => no (fun y => by omega), fun gt => ?_⟩⟩
          have e3 : sEnd1 (σ 1) (k, lp) = (((σ 1) (150 + 6 * k + 4)) + 1, ku lp (((σ 1) (150 + 6 * k + 4))) (lp (((σ 1) (150 + 6 * k + 4))) - 1)) := kif_t ⟨e21, gt⟩
          rw [e3] at nxt
          refine S_X12_behindEnds_79 (l1 := 0) ⟨by omega, by decide, fun h => absurd h (by decide), fun _ => ⟨by omega, fun h => absurd h (by decide), fun _ => ?_⟩⟩
          rw [kup_st, e18]; exact nxt
  have := lp 200 k (σ 18) (by have := sMu_r (a := (k, σ 18)) p hk.1 hl; omega) hk hl _ rfl
  rw [kst_id] at this; exact this
/-! what a line does -/
noncomputable def sBits (v : Int → Int) (n : Nat) : Int := kfor (fun i a => a + (kbits (sDooms (sHours v i.toNat)) : Int)) n 0
theorem P_X12_hoursGo {G : Kg} {σ : Kmem} {n : Int} (p : wf (σ 1) ∧ (1 ≤ n ∧ n ≤ 3) ∧ σ 1 7 ≤ 20000) : Run G WM M_X12_hoursGo 9 0 0 [vA G 0, vI n] σ (fun x s => x = kb (σ 1 7 + n ≤ 9999) ∧ s = kif (σ 1 7 + n ≤ 9999) (kup (kup (kst σ 1 (sHours (σ 1) n.toNat)) 19 3 (σ 19 3 + sBits (σ 1) n.toNat)) 19 1 (σ 19 1 + n)) σ) := by
  obtain ⟨w, hn, h7⟩ := p
  have w1 := wf_h w
  refine S_X12_hoursGo ⟨by omega, fun q => ?_, fun q => ⟨(kb_0 (by omega)).symm, (kif_f (by omega)).symm⟩⟩
  rw [kb_1 q, kif_t q]
  generalize hQ : (fun (x : Int) (s : Kmem) => x = 1 ∧ s = kup (kup (kst σ 1 (sHours (σ 1) n.toNat)) 19 3 (σ 19 3 + sBits (σ 1) n.toNat)) 19 1 (σ 19 1 + n)) = Q
  have b0 : kup (kst σ 1 (sHours (σ 1) 0)) 19 3 (σ 19 3 + sBits (σ 1) 0) = σ := by
    have : sHours (σ 1) 0 = σ 1 := rfl
    rw [this, kst_id, kup_k]
    have : sBits (σ 1) 0 = 0 := rfl
    rw [this, Int.add_zero, ku_self, kst_id]
  have lp := kloopP (E := fun i τ => E_X12_hoursGo_19 G n i τ Q) (fun i τ => τ = kup (kst σ 1 (sHours (σ 1) i)) 19 3 (σ 19 3 + sBits (σ 1) i)) n.toNat (fun i τ hi hI ih => S_X12_hoursGo_19 ⟨by omega, by omega, fun z => ?_, fun z => ?_⟩) (τ := σ) b0.symm
  · exact lp
  · subst hI
    rw [← hQ]
    refine ⟨rfl, ?_⟩
    rw [show i = n.toNat by omega, kup_j (by omega), kst_ne (by omega)]
  · subst hI
    have ok := sHours_ok w i (by omega)
    have e1 : (kup (kst σ 1 (sHours (σ 1) i)) 19 3 (σ 19 3 + sBits (σ 1) i)) 1 = sHours (σ 1) i := by funext j; rw [kup_x (by omega), kst_eq]
    rw [e1]
    have dr := sDooms_r ok.1
    refine ⟨ok.1, dr, ih (by omega) _ ?_⟩
    have eh : sHours (σ 1) (i + 1) = sBy (sHours (σ 1) i) := rfl
    have eb : sBits (σ 1) (i + 1) = sBits (σ 1) i + (kbits (sDooms (sHours (σ 1) i)) : Int) := rfl
    rw [eh, eb, kup_at, Int.toNat_natCast]
    funext x j
    by_cases x1 : x = 1
    · subst x1
      rw [kup_x (by omega), kst_eq, kup_x (by omega), kst_eq]
    · by_cases x19 : x = 19 ∧ j = 3
      · obtain ⟨rfl, rfl⟩ := x19
        rw [kup_at, kup_at]; omega
      · have e : ∀ (t : Kmem) (y : Int), kup t 19 3 y x j = t x j := fun t y => if_neg x19
        rw [e, e, kst_ne x1, kst_ne x1, e, kst_ne x1]
theorem P_X12_walksBy {G : Kg} {σ : Kmem} {k s : Int} (p : wf (σ 1) ∧ sKt (σ 1) k ∧ rI s) : Run G WM M_X12_walksBy 3 0 0 [vA G 0, vI k, vI s] σ (fun x t => x = kb (sMay (σ 1) k s) ∧ t = kif (sMay (σ 1) k s) (kup (kst σ 1 (sWalk (σ 1) k s)) 19 2 (σ 19 2 + 1)) σ) := by
  refine S_X12_walksBy ⟨p, fun y => ?_, fun n => ?_⟩
  · rw [kif_t y, kif_t y, kb_1 y, kst_ne (by omega)]; exact ⟨rfl, rfl⟩
  · rw [kif_f n, kif_f n, kb_0 n, kst_id]; exact ⟨rfl, rfl⟩
abbrev dr1 (d : Int) : Int := (d * 3001 + 11197) % 65536
theorem P_X12_draw {G : Kg} {σ : Kmem} {n : Int} (p : (0 ≤ σ 0 35 ∧ σ 0 35 ≤ 65535) ∧ 0 < n ∧ n ≤ 10) : Run G WM M_X12_draw 0 0 0 [vA G 0, vI n] σ (fun x s => x = dr1 (σ 0 35) / 8 % n ∧ s = kup σ 0 35 (dr1 (σ 0 35))) := by
  refine S_X12_draw ?_
  rw [kup_at]
  exact ⟨by omega, by omega, by omega, by omega, rfl, rfl⟩
/-- what a line does: 1 or 0 (missed), and the memory behind it -/
noncomputable def sDo (τ : Kmem) (k : Int) : Int × Kmem :=
  kif (((τ 1) (150 + 6 * k)) = 15) (kb (τ 1 7 + τ 1 (150 + 6 * k + 1) ≤ 9999), kif (τ 1 7 + τ 1 (150 + 6 * k + 1) ≤ 9999) (kup (kup (kst τ 1 (sHours (τ 1) (τ 1 (150 + 6 * k + 1)).toNat)) 19 3 (τ 19 3 + sBits (τ 1) (τ 1 (150 + 6 * k + 1)).toNat)) 19 1 (τ 19 1 + τ 1 (150 + 6 * k + 1))) τ)
  (kif (((τ 1) (150 + 6 * k)) = 16) (kb (sMay (τ 1) (τ 1 (150 + 6 * k + 1)) (τ 1 (150 + 6 * k + 2))), kif (sMay (τ 1) (τ 1 (150 + 6 * k + 1)) (τ 1 (150 + 6 * k + 2))) (kup (kst τ 1 (sWalk (τ 1) (τ 1 (150 + 6 * k + 1)) (τ 1 (150 + 6 * k + 2)))) 19 2 (τ 19 2 + 1)) τ)
  (kif (((τ 1) (150 + 6 * k)) = 17) (kb (τ 1 (34 + 9 * τ 1 (150 + 6 * k + 1) + 8) ≠ 1), kst τ 1 (ku (τ 1) (34 + 9 * τ 1 (150 + 6 * k + 1) + 8) 1))
  (kif (((τ 1) (150 + 6 * k)) = 18) (kb (τ 1 (34 + 9 * τ 1 (150 + 6 * k + 1) + 8) ≠ 0), kst τ 1 (ku (τ 1) (34 + 9 * τ 1 (150 + 6 * k + 1) + 8) 0))
  (kif (((τ 1) (150 + 6 * k)) = 19) (kb (sMay (τ 1) (τ 1 (150 + 6 * k + 1)) (dr1 (τ 0 35) / 8 % 4 + 1)), kif (sMay (τ 1) (τ 1 (150 + 6 * k + 1)) (dr1 (τ 0 35) / 8 % 4 + 1)) (kup (kst (kup τ 0 35 (dr1 (τ 0 35))) 1 (sWalk (τ 1) (τ 1 (150 + 6 * k + 1)) (dr1 (τ 0 35) / 8 % 4 + 1))) 19 2 (τ 19 2 + 1)) (kup τ 0 35 (dr1 (τ 0 35))))
  (1, τ)))))
theorem P_X12_does {G : Kg} {τ : Kmem} {k : Int} (p : wf (τ 1) ∧ τ 1 7 ≤ 20000 ∧ pwf (τ 1) ∧ (0 ≤ k ∧ k < τ 1 8) ∧ (0 ≤ τ 0 35 ∧ τ 0 35 ≤ 65535)) : Run G WM M_X12_does 10 0 0 [vA G 0, vI (150 + 6 * k)] τ (fun x s => x = (sDo τ k).1 ∧ s = (sDo τ k).2) := by
  obtain ⟨w, h7, pw, hk, hd⟩ := p
  have ln := pw.2.1 k hk.1 hk.2
  have p8 := pw.1
  obtain ⟨l1, l2, l3, l4, l5, l6, l7, l8, l9⟩ := ln
  unfold sDo
  refine S_X12_does ⟨by omega, by omega, by omega, fun e => ?_, fun e => ?_, fun e => ?_, fun e => ?_, fun e => ?_, fun e => ?_⟩
  · rw [kif_t e]
    exact Run.mono (P_X12_hoursGo ⟨w, l2 e, h7⟩) (fun x s z => ⟨by rw [z.1]; exact kb_01 _, z⟩)
  · have l4 := l4 e
    rw [kif_f (by omega), kif_t e]
    exact ⟨by omega, Run.mono (P_X12_walksBy ⟨w, l3 (by omega), by omega⟩) (fun x s z => ⟨by rw [z.1]; exact kb_01 _, z⟩)⟩
  · rw [kif_f (by omega), kif_f (by omega), kif_t e]
    exact ⟨⟨w, l3 (by omega), by omega⟩, rfl, rfl⟩
  · rw [kif_f (by omega), kif_f (by omega), kif_f (by omega), kif_t e]
    exact ⟨⟨w, l3 (by omega), by omega⟩, rfl, rfl⟩
  · rw [kif_f (by omega), kif_f (by omega), kif_f (by omega), kif_f (by omega), kif_t e]
    refine Run.mono (P_X12_draw ⟨hd, by omega, by omega⟩) (fun x s z => ?_)
    rw [z.1, z.2]
    have e1 : (kup τ 0 35 (dr1 (τ 0 35))) 1 = τ 1 := by funext j; exact kup_x (by omega)
    refine Run.mono (P_X12_walksBy (by rw [e1]; exact ⟨w, l3 (by omega), by omega⟩)) (fun x s z => ⟨by rw [z.1]; exact kb_01 _, ?_⟩)
    rw [e1, kup_x (by omega)] at z
    exact z
  · rw [kif_f (by omega), kif_f (by omega), kif_f (by omega), kif_f (by omega), kif_f (by omega)]
    exact ⟨rfl, rfl⟩
/-- whether a when is met -/
noncomputable def sHolds (v : Int → Int) (k : Int) : Prop :=
  kif ((v (150 + 6 * k)) = 2025) (v (88 + 4 * v (150 + 6 * k + 1) + 2) ≤ v (88 + 4 * v (150 + 6 * k + 1) + 3)) (kif ((v (150 + 6 * k)) = 2026) (sUp v (v (150 + 6 * k + 1)) (v 7 % 12))
  (kif (v (150 + 6 * k + 5) = 60) (v (34 + 9 * v (150 + 6 * k + 1) + 5) < v (150 + 6 * k + 2)) (kif (v (150 + 6 * k + 5) = 62) (v (150 + 6 * k + 2) < v (34 + 9 * v (150 + 6 * k + 1) + 5)) (v (34 + 9 * v (150 + 6 * k + 1) + 5) = v (150 + 6 * k + 2)))))
theorem P_X12_holds {G : Kg} {σ : Kmem} {k : Int} (p : wf (σ 1) ∧ pwf (σ 1) ∧ (0 ≤ k ∧ k < σ 1 8) ∧ 2024 ≤ ((σ 1) (150 + 6 * k))) : Run G WM M_X12_holds 4 0 0 [vA G 0, vI (150 + 6 * k)] σ (fun x s => x = kb (sHolds (σ 1) k) ∧ s = σ) := by
  obtain ⟨w, pw, hk, ho⟩ := p
  have w1 := wf_h w
  have ln := pw.2.1 k hk.1 hk.2
  have p8 := pw.1
  obtain ⟨l1, l2, l3, l4, l5, l6, l7, l8, l9⟩ := ln
  unfold sHolds
  refine S_X12_holds ⟨by omega, by omega, by omega, fun n25 => ⟨fun n26 => ?_, fun e26 => ?_⟩, fun e25 => ?_⟩
  · rw [kif_f (by omega), kif_f (by omega)]
    have kt := l3 (by omega)
    have l6 := l6 (by omega)
    have wk := w.2.2.1 _ kt.1 kt.2
    have kt1 := kt.1
    have kt2 := kt.2
    refine ⟨by omega, by omega, by omega, fun n60 => ⟨by omega, fun n62 => ⟨by omega, by omega, by omega, fun a => ?_, fun a => ?_⟩, fun e62 => ⟨by omega, by omega, by omega, fun a => ?_, fun a => ?_⟩⟩, fun e60 => ⟨by omega, by omega, by omega, fun a => ?_, fun a => ?_⟩⟩
    · rw [kif_f n60, kif_f n62]; exact ⟨(kb_0 a).symm, rfl⟩
    · rw [kif_f n60, kif_f n62]; exact ⟨(kb_1 a).symm, rfl⟩
    · rw [kif_f n60, kif_t e62]; exact ⟨(kb_0 (by omega)).symm, rfl⟩
    · rw [kif_f n60, kif_t e62]; exact ⟨(kb_1 a).symm, rfl⟩
    · rw [kif_t e60]; exact ⟨(kb_0 (by omega)).symm, rfl⟩
    · rw [kif_t e60]; exact ⟨(kb_1 a).symm, rfl⟩
  · rw [kif_f (by omega), kif_t (by omega)]
    exact ⟨by omega, ⟨w, l3 (by omega), by omega, by omega⟩, rfl, rfl⟩
  · rw [kif_t (by omega)]
    have := l5 (by omega)
    exact ⟨⟨w, by omega, by omega⟩, rfl, rfl⟩
