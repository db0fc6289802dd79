/-! the class's reading and the reference's -/
def isStr (a : Int) : Prop := ∃ i : Nat, i < 29 ∧ a = -((10 + i : Nat) : Int)
def sNo (a : Int) : Nat := (-a - 10).toNat
theorem sNo_i {i : Nat} : sNo (-((10 + i : Nat) : Int)) = i := by unfold sNo; omega
def xT0 (σ : Kmem) : Prop := (0 ≤ σ 3 3 ∧ σ 3 3 ≤ σ 3 4 ∧ σ 3 4 ≤ σ 3 1 ∧ σ 3 1 ≤ 900) ∧ (0 ≤ σ 3 2 ∧ σ 3 2 ≤ 4) ∧ (σ 3 2 ≠ 0 → σ 3 3 < σ 3 4) ∧ ∀ i, 0 ≤ i → i < σ 3 1 → -128 ≤ σ 4 i ∧ σ 4 i ≤ 127
abbrev xSg (σ : Kmem) (c : Int) : Prop := σ 3 2 = 4 ∧ σ 4 (σ 3 3) = c
def xF (σ : Kmem) (k : Int) : Kmem := if σ 3 2 = 1 then kup (kup σ 3 8 1) 3 9 (σ 3 3) else kup (kup σ 3 8 k) 3 9 (σ 3 3)
def xW (σ : Kmem) (a : Int) : Prop := σ 3 2 = 2 ∧ kslen (sNo a) = σ 3 4 - σ 3 3 ∧ ∀ j : Nat, (j : Int) < kslen (sNo a) → ksat (sNo a) j = σ 4 (σ 3 3 + j)
/-- the text and how far it is read -/
def tRt (σ τ : Kmem) : Prop := σ 3 1 = τ 0 11 ∧ ∀ i, 0 ≤ i → i < τ 0 11 → σ 4 i = τ 7 i
def tRs (σ τ : Kmem) : Prop := tRt σ τ ∧ (σ 3 2 = τ 0 12 ∧ σ 3 3 = τ 0 13 ∧ σ 3 4 = τ 0 14) ∧ (σ 3 8 = τ 0 18 ∧ σ 3 9 = τ 0 17) ∧ (τ 0 12 = 3 → σ 3 5 = τ 0 15) ∧ (τ 0 12 = 2 → σ 3 6 = n32 (bA τ) (τ 0 13) (τ 0 14 - τ 0 13).toNat)
theorem tRt_b {σ τ : Kmem} {i : Int} (h : tRt σ τ) (t : txt τ) (h0 : 0 ≤ i) (h1 : i < σ 3 1) : (bA τ i = σ 4 i % 256 ∧ -128 ≤ σ 4 i ∧ σ 4 i ≤ 127) ∧ i < 900 := by
  obtain ⟨a, b⟩ := h
  rw [a] at h1
  have e := b i h0 h1
  have r := t.2 i h0 (by have := t.1; omega)
  refine ⟨⟨?_, by omega, by omega⟩, by have := t.1; omega⟩
  unfold bA
  rw [kif_t h1, e]
theorem tRs_T0 {σ τ : Kmem} (h : tRs σ τ) (t : tok τ) : xT0 σ := by
  obtain ⟨h1, ⟨h2, h3, h4⟩, -⟩ := h
  obtain ⟨tx, t1, t2, t3, t4, -⟩ := t
  refine ⟨by rw [h3, h4, h1.1]; have := tx.1; omega, by rw [h2]; exact t2, by rw [h2, h3, h4]; exact t4, fun i a b => ?_⟩
  exact (tRt_b h1 tx a b).1.2
theorem tRs_1 {σ τ : Kmem} {x j y : Int} (h : tRs σ τ) (hx : x ≠ 0 ∧ x ≠ 7) : tRs σ (kup τ x j y) := by
  have f1 : (kup τ x j y) 0 = τ 0 := kup_o (by omega)
  have f7 : (kup τ x j y) 7 = τ 7 := kup_o (by omega)
  have b : bA (kup τ x j y) = bA τ := by funext i; unfold bA; rw [f1, f7]
  unfold tRs tRt at *
  rw [f1, f7, b]; exact h
/-- the same but for a few slots of the Scanner -/
def kS (J : Int → Prop) (s σ : Kmem) : Prop := (∀ x, x ≠ 3 → s x = σ x) ∧ ∀ j, ¬ J j → s 3 j = σ 3 j
theorem kS.refl {J : Int → Prop} {s : Kmem} : kS J s s := ⟨fun _ _ => rfl, fun _ _ => rfl⟩
theorem kS.trans {J : Int → Prop} {s t u : Kmem} (h : kS J s t) (g : kS J t u) : kS J s u := ⟨fun x a => (h.1 x a).trans (g.1 x a), fun j a => (h.2 j a).trans (g.2 j a)⟩
theorem kS_up {J : Int → Prop} {s : Kmem} {j y : Int} (h : J j) : kS J (kup s 3 j y) s := ⟨fun x a => kup_o a, fun k a => kup_j (fun e => a (e ▸ h))⟩
theorem kS.wide {J K : Int → Prop} {s t : Kmem} (h : kS J s t) (g : ∀ j, J j → K j) : kS K s t := ⟨h.1, fun j a => h.2 j (fun z => a (g j z))⟩
/-- what the Scanner writes as it goes on -/
abbrev jN (j : Int) : Prop := j = 2 ∨ j = 3 ∨ j = 4 ∨ j = 5 ∨ j = 6
/-- and where it fails, or takes a number -/
abbrev jA (j : Int) : Prop := 2 ≤ j ∧ j ≤ 9
theorem xF_v {σ : Kmem} {k : Int} : kS jA (xF σ k) σ ∧ (xF σ k 3 8 = if σ 3 2 = 1 then 1 else k) ∧ xF σ k 3 9 = σ 3 3 ∧ ∀ j, j ≠ 8 → j ≠ 9 → xF σ k 3 j = σ 3 j := by
  unfold xF
  split
  · exact ⟨(kS_up (by constructor <;> omega)).trans (kS_up (by constructor <;> omega)), by rw [kup_j (by omega), kup_at], kup_at, fun j a b => by rw [kup_j b, kup_j a]⟩
  · exact ⟨(kS_up (by constructor <;> omega)).trans (kS_up (by constructor <;> omega)), by rw [kup_j (by omega), kup_at], kup_at, fun j a b => by rw [kup_j b, kup_j a]⟩
theorem tRs_F {σ τ : Kmem} {k : Int} (h : tRs σ τ) (t : tk1 τ) : tRs (xF σ k) (tF τ k) := by
  obtain ⟨h1, ⟨h2, h3, h4⟩, h5, h6, h7⟩ := h
  obtain ⟨v1, v2, v3, v4⟩ := xF_v (σ := σ) (k := k)
  have f := tF_18 (k := k) t.2
  have e : tF τ k = kup (kup τ 0 18 (kif (τ 0 12 = 1) 1 k)) 0 17 (τ 0 13) := kif_t t.2
  have o : ∀ x, x ≠ 0 → tF τ k x = τ x := fun x hx => by rw [e, kup_o hx, kup_o hx]
  have oj : ∀ j, j ≠ 17 → j ≠ 18 → tF τ k 0 j = τ 0 j := fun j a b => by rw [e, kup_j a, kup_j b]
  have b : bA (tF τ k) = bA τ := by funext i; unfold bA; rw [oj 11 (by omega) (by omega), o 7 (by omega)]
  unfold tRs tRt
  rw [oj 11 (by omega) (by omega), oj 12 (by omega) (by omega), oj 13 (by omega) (by omega), oj 14 (by omega) (by omega), oj 15 (by omega) (by omega), o 7 (by omega), b, f.1, f.2, v4 1 (by omega) (by omega), v4 2 (by omega) (by omega), v4 3 (by omega) (by omega), v4 4 (by omega) (by omega), v4 5 (by omega) (by omega), v4 6 (by omega) (by omega), v2, v3, v1.1 4 (by omega), h2]
  refine ⟨h1, ⟨rfl, h3, h4⟩, ⟨?_, h3⟩, h6, h7⟩
  by_cases q : τ 0 12 = 1
  · rw [if_pos q, kif_t q]
  · rw [if_neg q, kif_f q]
