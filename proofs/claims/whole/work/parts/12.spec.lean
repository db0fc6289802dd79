/-! THE WORDS OF THE PROMISES, over a flat county vector v (the reference's at[]) -/
/-- 1 if so, else 0 -/
noncomputable def kb (P : Prop) : Int := @ite Int P (Classical.propDecidable P) 1 0
theorem kb_1 {P : Prop} (h : P) : kb P = 1 := by unfold kb; exact if_pos h
theorem kb_0 {P : Prop} (h : ¬ P) : kb P = 0 := by unfold kb; exact if_neg h
theorem kb_01 (P : Prop) : kb P = 0 ∨ kb P = 1 := by
  by_cases h : P
  · exact Or.inr (kb_1 h)
  · exact Or.inl (kb_0 h)
theorem kb_r (P : Prop) : rI (kb P) := by rcases kb_01 P with h | h <;> rw [h] <;> decide
theorem kb_t {P : Prop} (h : kb P ≠ 0) : P := Classical.byContradiction fun q => h (kb_0 q)
theorem kb_f {P : Prop} (h : kb P = 0) : ¬ P := fun q => by rw [kb_1 q] at h; exact absurd h (by decide)
theorem kb_iff {P R : Prop} (h : P ↔ R) : kb P = kb R := by rw [propext h]
noncomputable def kif {α : Type} (P : Prop) (a b : α) : α := @ite α P (Classical.propDecidable P) a b
theorem kif_t {α : Type} {P : Prop} {a b : α} (h : P) : kif P a b = a := by unfold kif; exact if_pos h
theorem kif_f {α : Type} {P : Prop} {a b : α} (h : ¬ P) : kif P a b = b := by unfold kif; exact if_neg h
/-- the set of those below n of which p holds, 1 for 0 .. -/
noncomputable def kset (p : Int → Prop) : Nat → Nat
  | 0 => 0
  | n + 1 => kset p n + kif (p n) (2 ^ n) 0
/-- a county as it may be -/
def wfH (v : Int → Int) : Prop := (0 ≤ v 0 ∧ v 0 ≤ 9 ∧ 0 ≤ v 1 ∧ v 1 ≤ 7 ∧ (v 0 = 0 ↔ v 1 = 0)) ∧ (0 ≤ v 2 ∧ v 2 ≤ 6) ∧ (0 ≤ v 3 ∧ v 3 ≤ 8) ∧ (0 ≤ v 4 ∧ v 4 ≤ 6) ∧ (0 ≤ v 5 ∧ v 5 ≤ 11) ∧ (0 ≤ v 6 ∧ v 6 ≤ 2) ∧ (0 ≤ v 7 ∧ v 7 ≤ 100000)
def wfW (v : Int → Int) : Prop := ∀ h, 0 ≤ h → h < 12 → (0 ≤ v (10 + 2 * h) ∧ v (10 + 2 * h) ≤ 7) ∧ 0 ≤ v (10 + 2 * h + 1) ∧ v (10 + 2 * h + 1) ≤ 3
def wfK (v : Int → Int) : Prop := ∀ k, 0 ≤ k → k < v 2 → (0 ≤ v (34 + 9 * k) ∧ v (34 + 9 * k) < v 0) ∧ (0 ≤ v (34 + 9 * k + 1) ∧ v (34 + 9 * k + 1) < v 1) ∧ (0 ≤ v (34 + 9 * k + 2) ∧ v (34 + 9 * k + 2) ≤ 2) ∧ (0 ≤ v (34 + 9 * k + 3) ∧ v (34 + 9 * k + 3) ≤ 9) ∧ (0 ≤ v (34 + 9 * k + 4) ∧ v (34 + 9 * k + 4) ≤ 3) ∧ (0 ≤ v (34 + 9 * k + 5) ∧ v (34 + 9 * k + 5) ≤ 9999) ∧ (0 ≤ v (34 + 9 * k + 7) ∧ v (34 + 9 * k + 7) ≤ 7) ∧ (v (34 + 9 * k + 8) = 0 ∨ v (34 + 9 * k + 8) = 1)
def wfC (v : Int → Int) : Prop := ∀ c, 0 ≤ c → c < v 3 → (0 ≤ v (88 + 4 * c) ∧ v (88 + 4 * c) < v 0) ∧ (0 ≤ v (88 + 4 * c + 1) ∧ v (88 + 4 * c + 1) < v 1) ∧ (1 ≤ v (88 + 4 * c + 2) ∧ v (88 + 4 * c + 2) ≤ 99) ∧ (0 ≤ v (88 + 4 * c + 3) ∧ v (88 + 4 * c + 3) ≤ 99)
def wfT (v : Int → Int) : Prop := ∀ t, 0 ≤ t → t < v 4 → (0 ≤ v (120 + 5 * t) ∧ v (120 + 5 * t) < v 0) ∧ (0 ≤ v (120 + 5 * t + 1) ∧ v (120 + 5 * t + 1) < v 1) ∧ (0 ≤ v (120 + 5 * t + 2) ∧ v (120 + 5 * t + 2) < v 2)
def wf (v : Int → Int) : Prop := wfH v ∧ wfW v ∧ wfK v ∧ wfC v ∧ wfT v
/-- a field of the land -/
abbrev sFld (v : Int → Int) (c r : Int) : Prop := (0 ≤ c ∧ c < v 0) ∧ 0 ≤ r ∧ r < v 1
abbrev sKt (v : Int → Int) (k : Int) : Prop := 0 ≤ k ∧ k < v 2
abbrev sHr (h : Int) : Prop := 0 ≤ h ∧ h < 12
def sBorne (v : Int → Int) (k h : Int) : Prop := v (34 + 9 * k + 4) ≤ v (10 + 2 * h + 1)
def sUp (v : Int → Int) (k h : Int) : Prop := v (34 + 9 * k + 8) ≠ 1 ∧ sBorne v k h
def sFar (v : Int → Int) (k h : Int) : Int := v (34 + 9 * k + 3) * v (10 + 2 * h + 1) / 3
def sTrn (v : Int → Int) (k h : Int) : Int := (v (10 + 2 * h) + v (34 + 9 * k + 7)) % 8
def sDx (d : Int) : Int := if 0 < d ∧ d < 4 then 1 else if 4 < d then -1 else 0
def sDy (d : Int) : Int := if 2 < d ∧ d < 6 then 1 else if d < 2 ∨ d = 7 then -1 else 0
def sCol (v : Int → Int) (k h : Int) : Int := v (34 + 9 * k) + sFar v k h * sDx (sTrn v k h)
def sRow (v : Int → Int) (k h : Int) : Int := v (34 + 9 * k + 1) + sFar v k h * sDy (sTrn v k h)
def sSz (v : Int → Int) (k h : Int) : Int := if h = v 5 then max 0 (v (34 + 9 * k + 2) - 1) else v (34 + 9 * k + 2)
def kabs (a : Int) : Int := if a < 0 then -a else a
/-- kite k, if it is borne, shades the field (cut or not) -/
def sShd (v : Int → Int) (k c r h : Int) : Prop := sBorne v k h ∧ kabs (sCol v k h - c) ≤ sSz v k h ∧ kabs (sRow v k h - r) ≤ sSz v k h
def sUS (v : Int → Int) (c r h : Int) (k : Int) : Prop := v (34 + 9 * k + 8) ≠ 1 ∧ sShd v k c r h
/-- the set of kites that are up and shade the field -/
noncomputable def sShs (v : Int → Int) (c r h : Int) : Nat := kset (sUS v c r h) (v 2).toNat
