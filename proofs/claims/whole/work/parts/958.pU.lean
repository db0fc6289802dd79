/-! KiteLandModel.plain(I)V, copies(II)V, county(I)I -/
/-- a slot without anything told -/
def plV (i : Int) : Int := if i = 5 then 6 else if i = 8 then -1 else if 10 ≤ i ∧ i < 34 then 2 else 0
def tPl (σ : Kmem) (a : Int) : Kmem := kst σ 1 (fun j => if a ≤ j ∧ j < a + 514 then plV (j - a) else σ 1 j)
theorem P_X12_plain {G : Kg} {σ : Kmem} {a : Int} (p : 0 ≤ a ∧ a + 514 ≤ 3598) : Run G WM M_X12_plain 0 0 0 [vA G 0, vI a] σ (fun x s => x = 0 ∧ s = tPl σ a) := by
  refine S_X12_plain ?_
  refine kloopP (E := fun i τ => E_X12_plain_2 G a i τ (fun x s => x = 0 ∧ s = tPl σ a)) (fun i τ => τ = kst σ 1 (fun j => if a ≤ j ∧ j < a + (i : Int) then 0 else σ 1 j)) 514 (fun i τ hi hI ih => S_X12_plain_2 ⟨by constructor <;> omega, fun z => ⟨by omega, ?_⟩, fun z => ⟨by omega, ih (by omega) _ ?_⟩⟩) ?_
  · refine kloopP (E := fun i τ => E_X12_plain_36 G a i τ (fun x s => x = 0 ∧ s = tPl σ a)) (fun i τ => τ = kst σ 1 (fun j => if a + 10 ≤ j ∧ j < a + 10 + 2 * (i : Int) then 2 else if j = a + 5 then 6 else if a ≤ j ∧ j < a + 514 then 0 else σ 1 j)) 12 (fun i τ hi hI ih => S_X12_plain_36 ⟨by constructor <;> omega, fun z => ⟨by omega, rfl, ?_⟩, fun z => ⟨by omega, by omega, ih (by omega) _ ?_⟩⟩) ?_
    · rw [hI, kup_st]
      unfold tPl
      congr 1
      funext j
      unfold ku plV
      dsimp only
      by_cases e8 : j = a + 8
      · rw [if_pos e8, if_pos (by omega), if_neg (by omega), if_pos (by omega)]
      · rw [if_neg e8]
        by_cases e1 : a + 10 ≤ j ∧ j < a + 10 + 2 * (i : Int)
        · rw [if_pos e1, if_pos (by omega), if_neg (by omega), if_neg (by omega), if_pos (by omega)]
        · rw [if_neg e1]
          by_cases e5 : j = a + 5
          · rw [if_pos e5, if_pos (by omega), if_pos (by omega)]
          · rw [if_neg e5]
            by_cases er : a ≤ j ∧ j < a + 514
            · rw [if_pos er, if_pos er, if_neg (by omega), if_neg (by omega), if_neg (by omega)]
            · rw [if_neg er, if_neg er]
    · rw [hI, kup_st, kup_st]
      congr 1
      funext j
      unfold ku
      dsimp only
      by_cases e1 : j = a + 10 + 2 * (i : Int) + 1
      · rw [if_pos e1, if_pos (by omega)]
      · rw [if_neg e1]
        by_cases e2 : j = a + 10 + 2 * (i : Int)
        · rw [if_pos e2, if_pos (by omega)]
        · rw [if_neg e2]
          by_cases e3 : a + 10 ≤ j ∧ j < a + 10 + 2 * (i : Int)
          · rw [if_pos e3, if_pos (by omega)]
          · rw [if_neg e3, if_neg (show ¬ (a + 10 ≤ j ∧ j < a + 10 + 2 * ((i + 1 : Nat) : Int)) by omega)]
    · rw [hI, kup_st]
      congr 1
      funext j
      unfold ku
      dsimp only
      rw [if_neg (show ¬ (a + 10 ≤ j ∧ j < a + 10 + 2 * ((0 : Nat) : Int)) by omega)]
      by_cases e : j = a + 5
      · rw [if_pos e, if_pos e]
      · rw [if_neg e, if_neg e]
        by_cases er : a ≤ j ∧ j < a + (i : Int)
        · rw [if_pos er, if_pos (by omega)]
        · rw [if_neg er, if_neg (by omega)]
  · rw [hI, kup_st]
    congr 1
    funext j
    unfold ku
    dsimp only
    by_cases e : j = a + (i : Int)
    · rw [if_pos e, if_pos (by omega)]
    · rw [if_neg e]
      by_cases er : a ≤ j ∧ j < a + (i : Int)
      · rw [if_pos er, if_pos (by omega)]
      · rw [if_neg er, if_neg (by omega)]
  · have : (fun j => if a ≤ j ∧ j < a + ((0 : Nat) : Int) then 0 else σ 1 j) = σ 1 := by funext j; rw [if_neg (by omega)]
    rw [this, kst_id]
/-- n cells behind a, as those behind b were -/
def cpA (f : Int → Int) (a b n : Int) : Int → Int := fun j => if a ≤ j ∧ j < a + n then f (b + (j - a)) else f j
theorem cpA_0 {f : Int → Int} {a b : Int} : cpA f a b ((0 : Nat) : Int) = f := by
  funext j; unfold cpA; rw [if_neg (by omega)]
theorem cpA_s {f : Int → Int} {a b : Int} {i : Nat} {N : Int} (hi : (i : Int) < N) (d : a = b ∨ a + N ≤ b ∨ b + N ≤ a) : ku (cpA f a b i) (a + i) (cpA f a b i (b + i)) = cpA f a b ((i + 1 : Nat) : Int) := by
  funext j
  unfold ku cpA
  by_cases e : j = a + (i : Int)
  · rw [if_pos e, if_pos (show a ≤ j ∧ j < a + ((i + 1 : Nat) : Int) by omega), if_neg (by omega), e]
    congr 1; omega
  · rw [if_neg e]
    by_cases er : a ≤ j ∧ j < a + (i : Int)
    · rw [if_pos er, if_pos (by omega)]
    · rw [if_neg er, if_neg (by omega)]
def tCp (σ : Kmem) (t f : Int) : Kmem := kst (kst σ 1 (cpA (σ 1) (514 * t) (514 * f) 514)) 2 (cpA (σ 2) (20 * t) (20 * f) 20)
theorem P_X12_copies {G : Kg} {σ : Kmem} {f t : Int} (p : (0 ≤ f ∧ f ≤ 5) ∧ (0 ≤ t ∧ t ≤ 5)) : Run G WM M_X12_copies 0 0 0 [vA G 0, vI f, vI t] σ (fun x s => x = 0 ∧ s = tCp σ t f) := by
  refine S_X12_copies ?_
  have far : (514 * t = 514 * f ∨ 514 * t + 514 ≤ 514 * f ∨ 514 * f + 514 ≤ 514 * t) ∧ (20 * t = 20 * f ∨ 20 * t + 20 ≤ 20 * f ∨ 20 * f + 20 ≤ 20 * t) := by omega
  refine kloopP (E := fun i τ => E_X12_copies_2 G f t i τ (fun x s => x = 0 ∧ s = tCp σ t f)) (fun i τ => τ = kst σ 1 (cpA (σ 1) (514 * t) (514 * f) i)) 514 (fun i τ hi hI ih => S_X12_copies_2 ⟨by constructor <;> omega, fun z => ?_, fun z => ⟨by omega, by omega, ih (by omega) _ ?_⟩⟩) ?_
  · refine kloopP (E := fun i τ => E_X12_copies_41 G f t i τ (fun x s => x = 0 ∧ s = tCp σ t f)) (fun i τ => τ = kst (kst σ 1 (cpA (σ 1) (514 * t) (514 * f) 514)) 2 (cpA (σ 2) (20 * t) (20 * f) i)) 20 (fun i τ hi hI ih => S_X12_copies_41 ⟨by constructor <;> omega, fun z => ⟨rfl, ?_⟩, fun z => ⟨by omega, by omega, ih (by omega) _ ?_⟩⟩) ?_
    · rw [hI, show ((i : Nat) : Int) = 20 by omega]; rfl
    · rw [hI, kup_st, kst_eq, cpA_s (N := 20) (by omega) far.2]
    · rw [cpA_0, hI, show ((i : Nat) : Int) = 514 by omega]
      have : (kst σ 1 (cpA (σ 1) (514 * t) (514 * f) 514)) 2 = σ 2 := kst_ne (by omega)
      rw [← this, kst_id]
  · rw [hI, kup_st, kst_eq, cpA_s (N := 514) (by omega) far.1]
  · rw [cpA_0, kst_id]
/-- the parts, one behind the other, as many as there are up to n -/
noncomputable def cCty : Nat → Kmem → Kmem
  | 0, τ => τ
  | n + 1, τ => kif (τ 0 12 = 0) τ (kif (cPart τ).1 (cCty n (cPart τ).2) (cPart τ).2)
def cI (τ : Kmem) : Prop := tk1 τ ∧ nmR τ ∧ (0 ≤ τ 0 20 ∧ τ 0 20 < 16) ∧ cz (vN τ) (τ 0 20)
theorem cI_k2 {τ : Kmem} (h : cI τ) : tk2 τ := by
  have w := h.2.2.2.1.1
  unfold wfH at w
  refine ⟨h.1, h.2.1, ?_⟩
  unfold cty
  unfold vN at w
  have e0 : τ 1 (2056 + 0) = τ 1 2056 := rfl
  have e1 : τ 1 (2056 + 1) = τ 1 2057 := rfl
  have e2 : τ 1 (2056 + 2) = τ 1 2058 := rfl
  have e3 : τ 1 (2056 + 3) = τ 1 2059 := rfl
  have e4 : τ 1 (2056 + 4) = τ 1 2060 := rfl
  omega
theorem pow_p (k : Nat) : (0 : Int) < 2 ^ k := by
  induction k with
  | zero => decide
  | succ n ih => rw [Int.pow_succ]; omega
theorem cPart_t {τ : Kmem} (h : (cPart τ).1) : (0 ≤ tWi τ ∧ tWi τ ≤ 6) ∧ (tWi τ = 0 ∨ τ 0 20 % 2 ≠ 0) ∧ τ 0 20 / 2 ^ (tWi τ).toNat % 2 ≠ 1 ∧ (cBody (tWi τ) (kup τ 0 20 (kTo (τ 0 20) (tWi τ)))).1 ∧ (cSign 59 (cBody (tWi τ) (kup τ 0 20 (kTo (τ 0 20) (tWi τ)))).2).1 ∧ cPart τ = cSign 59 (cBody (tWi τ) (kup τ 0 20 (kTo (τ 0 20) (tWi τ)))).2 := by
  have e : cPart τ = kif (tWi τ < 0 ∨ 6 < tWi τ ∨ (tWi τ ≠ 0 ∧ τ 0 20 % 2 = 0)) (False, tF τ 2) (kif (τ 0 20 / 2 ^ (tWi τ).toNat % 2 = 1) (False, tF τ 5) (cThen (cBody (tWi τ) (kup τ 0 20 (kTo (τ 0 20) (tWi τ)))) (cSign 59))) := rfl
  by_cases a : tWi τ < 0 ∨ 6 < tWi τ ∨ (tWi τ ≠ 0 ∧ τ 0 20 % 2 = 0)
  · rw [kif_t a] at e; rw [e] at h; exact h.elim
  rw [kif_f a] at e
  by_cases b : τ 0 20 / 2 ^ (tWi τ).toNat % 2 = 1
  · rw [kif_t b] at e; rw [e] at h; exact h.elim
  rw [kif_f b] at e
  rw [e] at h
  obtain ⟨a1, b1, e1⟩ := cThen_y h
  exact ⟨by omega, by omega, b, a1, b1, e.trans e1⟩
theorem nv_20 {τ : Kmem} {y : Int} : vN (kup τ 0 20 y) = vN τ := by unfold vN; rw [kup_o (x := 1) (by omega)]
/-- a part that was read -/
theorem cPart_ok {τ : Kmem} (c : cI τ) (h : (cPart τ).1) : cI (cPart τ).2 ∧ fT1 (cPart τ).2 τ ∧ τ 0 13 < (cPart τ).2 0 13 := by
  have h2 := cI_k2 c
  obtain ⟨hk1, hn, hT, z⟩ := c
  obtain ⟨hk, hl, hb, y1, y2, e⟩ := cPart_t h
  obtain ⟨b1, b2, b3⟩ := told_bits hT (show 0 ≤ tWi τ ∧ tWi τ < 7 by omega)
  have b4 := (b3 hb).2.2
  have u2 := tk2_20 (y := kTo (τ 0 20) (tWi τ)) h2
  have B := cBody_G (k := tWi τ) u2
  have e12 : τ 0 12 ≠ 0 := by
    intro q
    have := hk1.1.2.2.2.1 q
    have w := (tWi_ok (τ := τ)).2.1 (tWi τ).toNat (by omega)
    have w2 := w.1 (by omega)
    exact absurd w2 (by unfold tW; rw [q]; omega)
  have s13 := hk1.1.2.2.2.2.1 e12
  have r1 := B.1.2.1 y1
  have m := B.2 y1
  rw [kup_j (by omega)] at m
  have ms := cSign_m (k := 59) r1 y2
  have g := cSign_G (k := 59) r1
  have r2 := g.2.1 y2
  have r1' := r1.1.2.1
  have f20 : (cSign 59 (cBody (tWi τ) (kup τ 0 20 (kTo (τ 0 20) (tWi τ)))).2).2 0 20 = kTo (τ 0 20) (tWi τ) := by
    rw [g.1.2.1 20 (by omega), B.1.1.2.1 20 (by omega), kup_at]
  rw [e]
  refine ⟨⟨r2, g.2.2.2 (B.1.2.2.2 u2.2.1), by rw [f20]; exact b4, ?_⟩, (fT0_1' g.1).trans ((fT0_1' B.1.1).trans fT1_20), by omega⟩
  rw [f20, nv_sign y2]
  have zu : cz (vN (kup τ 0 20 (kTo (τ 0 20) (tWi τ)))) (τ 0 20) := by rw [nv_20]; exact z
  generalize kup τ 0 20 (kTo (τ 0 20) (tWi τ)) = u at *
  have hk' : tWi τ = 0 ∨ tWi τ = 1 ∨ tWi τ = 2 ∨ tWi τ = 3 ∨ tWi τ = 4 ∨ tWi τ = 5 ∨ tWi τ = 6 := by omega
  generalize tWi τ = k at *
  generalize τ 0 20 = T at *
  rcases hk' with q | q | q | q | q | q | q <;> subst q
  · have t0 : T % 2 = 0 := by have : T / 2 ^ (0 : Int).toNat = T := Int.ediv_one T; omega
    exact cz_land zu y1 t0 (by show (T + 1) % 2 ≠ 0; omega)
  · exact cz_wind zu y1
  · have n := nv_num (i := 5) y1 (by rfl)
    rw [nv_tA] at n
    have w := zu.1.1
    exact cz_same zu (by show (T + 4) % 2 = T % 2; omega) (fun j _ a _ => n.1 j a) n.2 (by rw [show vN (cBody 2 u).2 6 = vN u 6 from n.1 6 (by omega)]; exact w.2.2.2.2.2.1)
  · have n := nv_num (i := 6) y1 (by rfl)
    rw [nv_tA] at n
    have w := zu.1.1
    exact cz_same zu (by show (T + 8) % 2 = T % 2; omega) (fun j _ _ a => n.1 j a) (by rw [show vN (cBody 3 u).2 5 = vN u 5 from n.1 5 (by omega)]; exact w.2.2.2.2.1) n.2
  · exact cz_kite (T := T) zu y1 (by omega)
  · exact cz_crop (T := T) zu y1 (by omega)
  · exact cz_ten (T := T) zu y1 (by omega)
theorem cPart_no {τ : Kmem} (c : cI τ) (h : ¬ (cPart τ).1) : ((1 ≤ (cPart τ).2 0 18 ∧ (cPart τ).2 0 18 ≤ 9) ∧ tok (cPart τ).2) ∧ nmR (cPart τ).2 ∧ fT1 (cPart τ).2 τ := by
  have h2 := cI_k2 c
  have e : cPart τ = kif (tWi τ < 0 ∨ 6 < tWi τ ∨ (tWi τ ≠ 0 ∧ τ 0 20 % 2 = 0)) (False, tF τ 2) (kif (τ 0 20 / 2 ^ (tWi τ).toNat % 2 = 1) (False, tF τ 5) (cThen (cBody (tWi τ) (kup τ 0 20 (kTo (τ 0 20) (tWi τ)))) (cSign 59))) := rfl
  have fl : ∀ k, 1 ≤ k ∧ k ≤ 9 → cPart τ = (False, tF τ k) → ((1 ≤ (cPart τ).2 0 18 ∧ (cPart τ).2 0 18 ≤ 9) ∧ tok (cPart τ).2) ∧ nmR (cPart τ).2 ∧ fT1 (cPart τ).2 τ := by
    intro k hk q
    have g := cG_fail h2.1 hk
    rw [q]
    exact ⟨g.2.2.1 (fun z => z), g.2.2.2 h2.2.1, fT0_1' g.1⟩
  by_cases a : tWi τ < 0 ∨ 6 < tWi τ ∨ (tWi τ ≠ 0 ∧ τ 0 20 % 2 = 0)
  · rw [kif_t a] at e; exact fl 2 (by omega) e
  rw [kif_f a] at e
  by_cases b : τ 0 20 / 2 ^ (tWi τ).toNat % 2 = 1
  · rw [kif_t b] at e; exact fl 5 (by omega) e
  rw [kif_f b] at e
  have u2 := tk2_20 (y := kTo (τ 0 20) (tWi τ)) h2
  have B := cBody_G (k := tWi τ) u2
  rw [e] at h ⊢
  have G := cThen_G B.1 (f := cSign 59) (fun y => cSign_G (B.1.2.1 y))
  exact ⟨G.2.2.1 h, G.2.2.2 u2.2.1, (fT0_1' G.1).trans fT1_20⟩
theorem cCty_ok : ∀ (n : Nat) (τ : Kmem), cI τ → 901 - τ 0 13 < n → ((cCty n τ 0 18 = 0 → cI (cCty n τ) ∧ cCty n τ 0 12 = 0) ∧ (cCty n τ 0 18 ≠ 0 → 1 ≤ cCty n τ 0 18 ∧ cCty n τ 0 18 ≤ 9)) ∧ (tok (cCty n τ) ∧ nmR (cCty n τ)) ∧ fT1 (cCty n τ) τ
  | 0, τ, c, h => by
    have := c.1.1.2.1
    have := c.1.1.1.1
    omega
  | n + 1, τ, c, h => by
    have e : cCty (n + 1) τ = kif (τ 0 12 = 0) τ (kif (cPart τ).1 (cCty n (cPart τ).2) (cPart τ).2) := rfl
    by_cases a : τ 0 12 = 0
    · rw [e, kif_t a]; exact ⟨⟨fun _ => ⟨c, a⟩, fun q => absurd c.1.2 q⟩, ⟨c.1.1, c.2.1⟩, fT1.refl⟩
    rw [kif_f a] at e
    by_cases b : (cPart τ).1
    · rw [e, kif_t b]
      obtain ⟨p1, p2, p3⟩ := cPart_ok c b
      obtain ⟨i1, i2, i3⟩ := cCty_ok n _ p1 (by omega)
      exact ⟨i1, i2, i3.trans p2⟩
    · rw [e, kif_f b]
      obtain ⟨⟨p1, p2⟩, p3, p4⟩ := cPart_no c b
      exact ⟨⟨fun q => by omega, fun _ => p1⟩, ⟨p2, p3⟩, p4⟩
theorem cty_31 {G : Kg} {Q : Int → Kmem → Prop} : ∀ (n : Nat) (τ : Kmem), cI τ → 901 - τ 0 13 < n → (cCty n τ 0 18 ≠ 0 → Run G WM M_X12_taken 1 0 0 [vA G 0, vI (cCty n τ 1 2)] (cCty n τ) (fun r s => Q r s)) → (cCty n τ 0 18 = 0 → E_X12_county_59 G 0 (cCty n τ) Q) → E_X12_county_31 G 1 τ Q
  | 0, τ, c, h, _, _ => by
    have := c.1.1.2.1
    have := c.1.1.1.1
    omega
  | n + 1, τ, c, h, k1, k2 => by
    have e : cCty (n + 1) τ = kif (τ 0 12 = 0) τ (kif (cPart τ).1 (cCty n (cPart τ).2) (cPart τ).2) := rfl
    have r12 := c.1.1.2.2.1
    have h18 := c.1.2
    refine S_X12_county_31 (l1 := 0) ⟨by decide, fun q => absurd q (by decide), fun _ => ⟨by constructor <;> omega, fun a => ?_, fun a => ?_⟩⟩
    · rw [kif_t a] at e
      rw [e] at k1 k2
      exact ⟨by constructor <;> omega, fun q => absurd h18 q, fun q => k2 q⟩
    · rw [kif_f a] at e
      refine ⟨⟨cI_k2 c, c.2.2.1.1, c.2.2.1.2⟩, ?_⟩
      by_cases b : (cPart τ).1
      · rw [kif_t b] at e
        rw [kb_1 b]
        rw [e] at k1 k2
        have p := cPart_ok c b
        exact cty_31 n _ p.1 (by omega) k1 k2
      · rw [kif_f b] at e
        rw [kb_0 b]
        rw [e] at k1 k2
        have p := cPart_no c b
        refine S_X12_county_31 (l1 := 0) ⟨by decide, fun _ => ⟨by have := p.1.1; constructor <;> omega, fun q => k1 q, fun q => ?_⟩, fun q => absurd rfl q⟩
        have := p.1.1
        omega
/-- the county as it was read -/
def tC0 (σ : Kmem) : Kmem := kup (tPl σ 2056) 0 20 0
noncomputable def tCo (σ : Kmem) (n : Int) : Kmem := cCty 902 (tC0 (tA (tB0 σ n)))
def tCq (u : Kmem) : Kmem := kst (kst u 1 (cpA (u 1) 0 2056 514)) 2 (cpA (u 2) 0 80 20)
theorem plV_cz : cz plV 0 := by
  have q : ∀ j : Nat, j < 150 → plV (j : Int) = if (j : Int) = 5 then 6 else if (j : Int) = 8 then -1 else if 10 ≤ (j : Int) ∧ (j : Int) < 34 then 2 else 0 := fun j _ => rfl
  have z : ∀ j, j ≠ 5 → j ≠ 8 → (j < 10 ∨ 34 ≤ j) → plV j = 0 := fun j a b c => by unfold plV; rw [if_neg a, if_neg b, if_neg (by omega)]
  have w : ∀ j, 10 ≤ j → j < 34 → plV j = 2 := fun j a b => by unfold plV; rw [if_neg (by omega), if_neg (by omega), if_pos (by omega)]
  have z2 : plV 2 = 0 := by decide
  have z3 : plV 3 = 0 := by decide
  have z4 : plV 4 = 0 := by decide
  refine ⟨⟨by unfold wfH; decide, fun k a b => ?_, fun k a b => by omega, fun k a b => by omega, fun k a b => by omega⟩, ⟨fun _ => by decide, fun q => absurd rfl q⟩, ⟨fun k a b => ?_, fun k a b => ?_, fun k a b => ?_⟩, by decide, by decide⟩
  · rw [w _ (by omega) (by omega), w _ (by omega) (by omega)]; decide
  · rw [z _ (by omega) (by omega) (by omega), z _ (by omega) (by omega) (by omega), z _ (by omega) (by omega) (by omega), z _ (by omega) (by omega) (by omega)]; decide
  · exact z _ (by omega) (by omega) (by omega)
  · exact ⟨z _ (by omega) (by omega) (by omega), z _ (by omega) (by omega) (by omega)⟩
theorem nv_pl {σ : Kmem} {j : Int} (h : 0 ≤ j ∧ j < 514) : vN (tPl σ 2056) j = plV j := by
  unfold vN tPl
  rw [kst_eq, if_pos (by omega)]
  congr 1; omega
theorem tok_kst {τ : Kmem} {x : Int} {f : Int → Int} (h : tok τ) (hx : x ≠ 0 ∧ x ≠ 7) : tok (kst τ x f) := by
  have f1 : (kst τ x f) 0 = τ 0 := kst_ne (by omega)
  have f7 : (kst τ x f) 7 = τ 7 := kst_ne (by omega)
  have b : ∀ i, bA (kst τ x f) i = bA τ i := fun i => by unfold bA; rw [f1, f7]
  unfold tok txt at *
  rw [f1, f7]
  simp only [b]
  exact h
theorem tC0_I {τ : Kmem} (h : tk1 τ) (n : nmR τ) : cI (tC0 τ) := by
  have h1 : tk1 (tPl τ 2056) := ⟨tok_kst h.1 (by omega), by unfold tPl; rw [kst_ne (by omega)]; exact h.2⟩
  have e20 : (tC0 τ) 0 20 = 0 := kup_at
  refine ⟨(tk1_20 h1).1, nm_same ?_ n, by rw [e20]; omega, ?_⟩
  · unfold tC0 tPl; rw [kup_o (x := 2) (by omega), kst_ne (by omega)]
  · rw [e20]
    unfold tC0
    rw [nv_20]
    have p := plV_cz
    exact cz_same_all p (fun j a b => nv_pl ⟨a, by omega⟩)
