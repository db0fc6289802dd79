/-! Scanner: what is taken -/
def wdK (i : Nat) : Nat := ([7, 9, 10, 11, 12, 13, 14, 8, 1, 2, 3, 4, 5, 6, 0, 0, 20, 21, 23, 25, 26, 24, 22, 15, 16, 17, 18, 19] : List Nat).getD i 0
theorem wd_len : ∀ i : Nat, i < 28 → i ≠ 15 → wdK i < 27 ∧ kslen i = (kwL (wdK i) : Int) := by decide +kernel
theorem wd_at : ∀ i : Nat, i < 28 → i ≠ 15 → ∀ j : Nat, j < kwL (wdK i) → ksat i (j : Int) = kwC (wdK i) j := by decide +kernel
/-- the String at a is the word k -/
def isWd (a k : Int) : Prop := ∃ i : Nat, (i < 28 ∧ i ≠ 15) ∧ a = -((10 + i : Nat) : Int) ∧ k = (wdK i : Int)
theorem isWd_s {a k : Int} (h : isWd a k) : isStr a := by
  obtain ⟨i, hi, e, -⟩ := h
  exact ⟨i, by omega, e⟩
theorem xW_t {σ τ : Kmem} {a k : Int} (h : tRs σ τ) (t : tok τ) (w : isWd a k) : xW σ a ↔ tWi τ = k := by
  obtain ⟨i, ⟨hi, h15⟩, ea, ek⟩ := w
  subst ea; subst ek
  obtain ⟨hk, L⟩ := wd_len i hi h15
  have A := wd_at i hi h15
  have C := kw_in (wdK i) hk
  rw [(tWi_ok (τ := τ)).2.1 (wdK i) hk]
  obtain ⟨h1, ⟨h2, h3, h4⟩, -⟩ := h
  have tx := t.1
  have r := t.2.1
  unfold xW tW
  rw [sNo_i, h2, h3, h4, L]
  constructor
  · rintro ⟨p1, p2, p3⟩
    refine ⟨p1, by omega, fun j hj => ?_⟩
    have e := p3 j (by omega)
    rw [A j hj] at e
    have b := tRt_b h1 tx (i := τ 0 13 + j) (by omega) (by rw [h1.1]; omega)
    have c := C j hj
    omega
  · rintro ⟨p1, p2, p3⟩
    refine ⟨p1, by omega, fun j hj => ?_⟩
    have e := p3 j (by omega)
    rw [A j (by omega)]
    have b := tRt_b h1 tx (i := τ 0 13 + j) (by omega) (by rw [h1.1]; omega)
    have c := C j (by omega)
    omega
abbrev jB (j : Int) : Prop := (2 ≤ j ∧ j ≤ 6) ∨ j = 8 ∨ j = 9
theorem xF_B {σ : Kmem} {k : Int} : kS jB (xF σ k) σ := by
  have v := xF_v (σ := σ) (k := k)
  exact ⟨v.1.1, fun j hj => v.2.2.2 j (by omega) (by omega)⟩
theorem tRs_r2 {σ τ : Kmem} (h : tRs σ τ) (t : tok τ) : rI (σ 3 2) := by
  have := t.2.2.1
  rw [h.2.1.1]; constructor <;> omega
theorem P_X6_takeWord {G : Kg} {σ τ : Kmem} {a k : Int} (h : tRs σ τ) (t : tk1 τ) (w : isWd a k) : Run G WX M_X6_takeWord 5 0 0 [vA G 3, vA G a] σ (fun y s => y = kb ((cWord k τ).1) ∧ tRs s (cWord k τ).2 ∧ kS jB s σ) := by
  have x := xW_t h t.1 w
  obtain ⟨i, hi, ea, ek⟩ := id w
  unfold cWord
  have S := isWd_s w
  rw [ea] at x S ⊢
  refine S_X6_takeWord (strs29 i (by omega)) ⟨⟨tRs_T0 h t.1, S⟩, fun q => Run.mono (P_X6_next' h t.1) (fun r s e => ?_), fun q => ⟨tRs_r2 h t.1, ?_⟩⟩
  · rw [kif_t (x.1 q)]
    exact ⟨(kb_1 trivial).symm, e.2.1, e.2.2.wide (fun j hj => by omega)⟩
  · rw [kif_f (fun z => q (x.2 z))]
    exact ⟨(kb_0 (fun z => z)).symm, tRs_F h t, xF_B⟩
theorem xSg_t {σ τ : Kmem} {c : Int} (h : tRs σ τ) (t : tok τ) (hc : 59 ≤ c ∧ c ≤ 62) : xSg σ c ↔ tSg τ c := by
  obtain ⟨h1, ⟨h2, h3, h4⟩, -⟩ := h
  have t4 := t.2.2.2.2.2.2.2.1
  have tx := t.1
  have r := t.2.1
  have e := t.2.2.2.2.1
  unfold xSg tSg
  rw [h2, h3]
  constructor
  · rintro ⟨p1, p2⟩
    have q := t4 p1
    have := e (by omega)
    have b := tRt_b h1 tx (i := τ 0 13) (by omega) (by rw [h1.1]; omega)
    exact ⟨p1, by omega⟩
  · rintro ⟨p1, p2⟩
    have q := t4 p1
    have := e (by omega)
    have b := tRt_b h1 tx (i := τ 0 13) (by omega) (by rw [h1.1]; omega)
    exact ⟨p1, by omega⟩
theorem P_X6_takeSign {G : Kg} {σ τ : Kmem} {c : Int} (h : tRs σ τ) (t : tk1 τ) (hc : 59 ≤ c ∧ c ≤ 62) : Run G WX M_X6_takeSign 2 0 0 [vA G 3, vI c] σ (fun y s => y = kb ((cSign c τ).1) ∧ tRs s (cSign c τ).2 ∧ kS jB s σ) := by
  have x := xSg_t h t.1 hc
  unfold cSign
  refine S_X6_takeSign ⟨⟨tRs_T0 h t.1, by constructor <;> omega⟩, fun q => Run.mono (P_X6_next' h t.1) (fun r s e => ?_), fun q => ⟨tRs_r2 h t.1, ?_⟩⟩
  · rw [kif_t (x.1 q)]
    exact ⟨(kb_1 trivial).symm, e.2.1, e.2.2.wide (fun j hj => by omega)⟩
  · rw [kif_f (fun z => q (x.2 z))]
    exact ⟨(kb_0 (fun z => z)).symm, tRs_F h t, xF_B⟩
theorem tRs_7 {σ τ : Kmem} {y : Int} (h : tRs σ τ) : tRs (kup σ 3 7 y) τ := by
  have c4 : (kup σ 3 7 y) 4 = σ 4 := kup_o (by omega)
  have v : ∀ j, j ≠ 7 → (kup σ 3 7 y) 3 j = σ 3 j := fun j hj => kup_j hj
  unfold tRs tRt at *
  rw [c4, v 1 (by omega), v 2 (by omega), v 3 (by omega), v 4 (by omega), v 5 (by omega), v 6 (by omega), v 8 (by omega), v 9 (by omega)]
  exact h
theorem P_X6_takeNumber {G : Kg} {σ τ : Kmem} {lo hi : Int} (to : Int) (h : tRs σ τ) (t : tk1 τ) (hl : rI lo ∧ rI hi) : Run G WX M_X6_takeNumber 2 0 0 [vA G 3, vI lo, vI hi] σ (fun y s => y = kb ((cNum to lo hi τ).1) ∧ tRs s (cNum to lo hi τ).2 ∧ kS jA s σ ∧ ((cNum to lo hi τ).1 → s 3 7 = τ 0 15)) := by
  have r2 := tRs_r2 h t.1
  have e2 := h.2.1.1
  have bad : ∀ k, (0 : Int) = kb False ∧ tRs (xF σ k) (tF τ k) ∧ kS jA (xF σ k) σ ∧ (False → xF σ k 3 7 = τ 0 15) := fun k => ⟨(kb_0 (fun z => z)).symm, tRs_F h t, xF_v.1, fun z => z.elim⟩
  unfold cNum
  refine S_X6_takeNumber ⟨r2, fun q => ?_, fun q => ⟨r2, ?_⟩⟩
  rotate_left
  · rw [kif_f (by omega)]; exact bad 2
  have q' : τ 0 12 = 3 := by omega
  have e5 := h.2.2.2.1 q'
  have r5 := t.1.2.2.2.2.2.2.1 q'
  rw [e5]
  refine ⟨by constructor <;> omega, hl.1, fun q1 => ⟨r2, ?_⟩, fun q1 => ⟨hl.2, fun q3 => ?_, fun q3 => ⟨r2, ?_⟩⟩⟩
  · rw [kif_t q', kif_f (by omega)]; exact bad 4
  · rw [kif_t q', kif_t ⟨q1, q3⟩]
    have h' : tRs (kup σ 3 7 (τ 0 15)) (kup τ 1 to (τ 0 15)) := tRs_1 (tRs_7 h) (by omega)
    refine Run.mono (P_X6_next' h' (tok_1 t.1)) (fun r s e => ?_)
    refine ⟨(kb_1 trivial).symm, e.2.1, (e.2.2.wide (fun j hj => by constructor <;> omega)).trans (kS_up (by constructor <;> omega)), fun _ => ?_⟩
    rw [e.2.2.2 7 (by omega), kup_at]
  · rw [kif_t q', kif_f (by omega)]; exact bad 4
theorem xRs_t {σ τ : Kmem} (h : tRs σ τ) (t : tok τ) (h2 : τ 0 12 = 2) (h8 : τ 0 14 - τ 0 13 ≤ 8) : (xRs (σ 3 6) ↔ tWi τ ≠ -1) ∧ 0 ≤ σ 3 6 ∧ σ 3 6 < 1099511627776 := by
  have e6 := h.2.2.2.2 h2
  have sm := t.2.2.2.2.2.1 h2
  have r := t.2.1
  have ls : ∀ i : Nat, i < (τ 0 14 - τ 0 13).toNat → cSm (bA τ (τ 0 13 + i)) := fun i hi => sm _ (by omega) (by omega)
  have R := n32_r _ ls
  have P : (32 : Int) ^ (τ 0 14 - τ 0 13).toNat ≤ 1099511627776 := by
    have : (τ 0 14 - τ 0 13).toNat ≤ 8 := by omega
    generalize (τ 0 14 - τ 0 13).toNat = m at this
    have q : m = 0 ∨ m = 1 ∨ m = 2 ∨ m = 3 ∨ m = 4 ∨ m = 5 ∨ m = 6 ∨ m = 7 ∨ m = 8 := by omega
    rcases q with q | q | q | q | q | q | q | q | q <;> subst q <;> decide
  rw [e6]
  refine ⟨?_, R.1, by omega⟩
  have W := tWi_ok (τ := τ)
  have lk : ∀ k : Nat, k < 27 → ∀ i : Nat, i < kwL k → cSm ((fun j : Int => kwC k j.toNat) (0 + i)) := fun k hk i hi => by
    show cSm (kwC k (0 + (i : Int)).toNat)
    rw [show (0 + (i : Int)).toNat = i by omega]
    exact kw_in k hk i hi
  constructor
  · rintro ⟨k, hk, e⟩ n
    obtain ⟨p1, p2⟩ := n32_inj _ _ ls (lk k hk) e
    refine (W.2.2.1 n) k hk ⟨h2, by omega, fun j hj => ?_⟩
    have := p2 j (by omega)
    rw [this]
    show kwC k (0 + (j : Int)).toNat = _
    rw [show (0 + (j : Int)).toNat = j by omega]
  · intro n
    have k0 : 0 ≤ tWi τ ∧ tWi τ < 27 := by have := W.1; omega
    obtain ⟨q1, q2, q3⟩ := (W.2.1 (tWi τ).toNat (by omega)).1 (by omega)
    refine ⟨(tWi τ).toNat, by omega, ?_⟩
    unfold rwV
    rw [show (τ 0 14 - τ 0 13).toNat = kwL (tWi τ).toNat by omega]
    refine n32_ext _ (fun i hi => ?_)
    rw [q3 i hi]
    show _ = kwC (tWi τ).toNat (0 + (i : Int)).toNat
    rw [show (0 + (i : Int)).toNat = i by omega]
theorem P_X6_isNameHere {G : Kg} {σ τ : Kmem} (h : tRs σ τ) (t : tk1 τ) : Run G WX M_X6_isNameHere 5 0 0 [vA G 3] σ (fun y s => y = kb (tNk τ) ∧ (tNk τ → s = σ) ∧ (¬ tNk τ → tRs s (tF τ 2) ∧ kS jB s σ)) := by
  have r2 := tRs_r2 h t.1
  have r := t.1.2.1
  have r11 := t.1.1.1
  obtain ⟨e2, e3, e4⟩ := h.2.1
  have bad : ¬ tNk τ → (0 : Int) = kb (tNk τ) ∧ (tNk τ → xF σ 2 = σ) ∧ (¬ tNk τ → tRs (xF σ 2) (tF τ 2) ∧ kS jB (xF σ 2) σ) := fun n => ⟨(kb_0 n).symm, fun z => absurd z n, fun _ => ⟨tRs_F h t, xF_B⟩⟩
  refine S_X6_isNameHere ⟨r2, fun q => ⟨r2, bad (fun z => by omega)⟩, fun q => ⟨by constructor <;> omega, fun q8 => ⟨r2, bad (fun z => by omega)⟩, fun q8 => ?_⟩⟩
  obtain ⟨x1, x2⟩ := xRs_t h t.1 (by omega) (by omega)
  refine Run.mono (P_X6_isReserved x2) (fun r' s e => ?_)
  obtain ⟨e1, es⟩ := e
  rw [es]
  by_cases c : xRs (σ 3 6)
  · rw [e1, kb_1 c]
    exact ⟨by decide, fun z => absurd z (by decide), fun _ => ⟨r2, bad (fun z => (x1.1 c) z.2.2)⟩⟩
  · rw [e1, kb_0 c]
    have y : tNk τ := ⟨by omega, by omega, Classical.byContradiction (fun z => c (x1.2 z))⟩
    exact ⟨by decide, fun _ => ⟨(kb_1 y).symm, fun _ => rfl, fun z => absurd y z⟩, fun z => absurd rfl z⟩
