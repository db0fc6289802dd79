/-! texts: what stays as one reads -/
def fT0 (s t : Kmem) : Prop := (∀ x, x ≠ 0 → x ≠ 1 → x ≠ 2 → s x = t x) ∧ (∀ j, (j < 12 ∨ (15 < j ∧ j ≠ 17 ∧ j ≠ 18)) → s 0 j = t 0 j) ∧ (∀ j, (j < 2056 ∨ 2570 ≤ j) → s 1 j = t 1 j) ∧ (∀ j, (j < 80 ∨ 100 ≤ j) → s 2 j = t 2 j)
theorem fT0.refl {s : Kmem} : fT0 s s := ⟨fun _ _ _ _ => rfl, fun _ _ => rfl, fun _ _ => rfl, fun _ _ => rfl⟩
theorem fT0.trans {s t u : Kmem} (h : fT0 s t) (g : fT0 t u) : fT0 s u := ⟨fun x a b c => (h.1 x a b c).trans (g.1 x a b c), fun j a => (h.2.1 j a).trans (g.2.1 j a), fun j a => (h.2.2.1 j a).trans (g.2.2.1 j a), fun j a => (h.2.2.2 j a).trans (g.2.2.2 j a)⟩
theorem fT0_tA {τ : Kmem} : fT0 (tA τ) τ := ⟨fun x a _ _ => tA_fr.1 x a, fun j a => tA_fr.2 j (by omega), fun j _ => by rw [tA_fr.1 1 (by omega)], fun j _ => by rw [tA_fr.1 2 (by omega)]⟩
theorem fT0_1 {τ : Kmem} {j y : Int} (h : 2056 ≤ j ∧ j < 2570) : fT0 (kup τ 1 j y) τ := ⟨fun x _ b _ => kup_o b, fun i _ => by rw [kup_o (by omega)], fun i a => kup_j (by omega), fun i _ => by rw [kup_o (by omega)]⟩
theorem fT0_2 {τ : Kmem} {j y : Int} (h : 80 ≤ j ∧ j < 100) : fT0 (kup τ 2 j y) τ := ⟨fun x _ _ c => kup_o c, fun i _ => by rw [kup_o (by omega)], fun i _ => by rw [kup_o (by omega)], fun i a => kup_j (by omega)⟩
theorem fT0_tF {τ : Kmem} {k : Int} : fT0 (tF τ k) τ := by
  unfold tF
  by_cases e : τ 0 18 = 0
  · rw [kif_t e]
    exact ⟨fun x a _ _ => by rw [kup_o a, kup_o a], fun j a => by rw [kup_j (by omega), kup_j (by omega)], fun j _ => by rw [kup_o (x := 1) (by omega), kup_o (x := 1) (by omega)], fun j _ => by rw [kup_o (x := 2) (by omega), kup_o (x := 2) (by omega)]⟩
  · rw [kif_f e]; exact fT0.refl
/-- how a piece may end -/
def cG (r : Prop × Kmem) (τ : Kmem) : Prop := fT0 r.2 τ ∧ (r.1 → tk1 r.2) ∧ (¬ r.1 → (1 ≤ r.2 0 18 ∧ r.2 0 18 ≤ 9) ∧ tok r.2) ∧ (nmR τ → nmR r.2)
noncomputable def cThen (r : Prop × Kmem) (f : Kmem → Prop × Kmem) : Prop × Kmem := kif r.1 (f r.2) (False, r.2)
theorem cThen_t {r : Prop × Kmem} {f : Kmem → Prop × Kmem} (h : r.1) : cThen r f = f r.2 := kif_t h
theorem cThen_f {r : Prop × Kmem} {f : Kmem → Prop × Kmem} (h : ¬ r.1) : cThen r f = (False, r.2) := kif_f h
theorem cThen_G {r : Prop × Kmem} {f : Kmem → Prop × Kmem} {τ : Kmem} (h : cG r τ) (g : r.1 → cG (f r.2) r.2) : cG (cThen r f) τ := by
  by_cases e : r.1
  · rw [cThen_t e]
    have g := g e
    exact ⟨g.1.trans h.1, g.2.1, g.2.2.1, fun n => g.2.2.2 (h.2.2.2 n)⟩
  · rw [cThen_f e]
    exact ⟨h.1, fun z => z.elim, fun _ => h.2.2.1 e, h.2.2.2⟩
theorem nm_same {s t : Kmem} (e : s 2 = t 2) (h : nmR t) : nmR s := by unfold nmR; rw [e]; exact h
theorem tF_tok {τ : Kmem} {k : Int} (h : tok τ) : tok (tF τ k) := by
  unfold tF
  by_cases e : τ 0 18 = 0
  · rw [kif_t e]
    have v : ∀ j, j ≠ 17 → j ≠ 18 → (kup (kup τ 0 18 (kif (τ 0 12 = 1) 1 k)) 0 17 (τ 0 13)) 0 j = τ 0 j := fun j a b => by rw [kup_j a, kup_j b]
    have o : (kup (kup τ 0 18 (kif (τ 0 12 = 1) 1 k)) 0 17 (τ 0 13)) 7 = τ 7 := by rw [kup_o (by omega), kup_o (by omega)]
    have b : ∀ i, bA (kup (kup τ 0 18 (kif (τ 0 12 = 1) 1 k)) 0 17 (τ 0 13)) i = bA τ i := fun i => by unfold bA; rw [v 11 (by omega) (by omega), o]
    unfold tok txt at *
    rw [v 11 (by omega) (by omega), v 12 (by omega) (by omega), v 13 (by omega) (by omega), v 14 (by omega) (by omega), v 15 (by omega) (by omega), o]
    simp only [b]
    exact h
  · rw [kif_f e]; exact h
theorem tF_18 {τ : Kmem} {k : Int} (h : τ 0 18 = 0) : tF τ k 0 18 = kif (τ 0 12 = 1) 1 k ∧ tF τ k 0 17 = τ 0 13 := by
  unfold tF; rw [kif_t h]; exact ⟨by rw [kup_j (by omega), kup_at], kup_at⟩
theorem tF_2 {τ : Kmem} {k : Int} : tF τ k 2 = τ 2 := by
  unfold tF; by_cases e : τ 0 18 = 0
  · rw [kif_t e, kup_o (x := 2) (by omega), kup_o (x := 2) (by omega)]
  · rw [kif_f e]
theorem cG_fail {τ : Kmem} {k : Int} (h : tk1 τ) (hk : 1 ≤ k ∧ k ≤ 9) : cG (False, tF τ k) τ := by
  refine ⟨fT0_tF, fun z => z.elim, fun _ => ⟨?_, tF_tok h.1⟩, fun n => nm_same tF_2 n⟩
  show 1 ≤ tF τ k 0 18 ∧ tF τ k 0 18 ≤ 9
  rw [(tF_18 h.2).1]
  by_cases e : τ 0 12 = 1
  · rw [kif_t e]; omega
  · rw [kif_f e]; exact hk
theorem tA_k1 {τ : Kmem} (h : tx0 τ) (h18 : τ 0 18 = 0) : tk1 (tA τ) := ⟨tA_tok h, by rw [tA_fr.2 18 (by omega)]; exact h18⟩
theorem cG_next {τ : Kmem} (h : tk1 τ) : cG (True, tA τ) τ := ⟨fT0_tA, fun _ => tA_k1 (tok_x0 h.1) h.2, fun n => absurd trivial n, fun n => nm_same (tA_fr.1 2 (by omega)) n⟩
theorem cWord_G {τ : Kmem} {k : Int} (h : tk1 τ) : cG (cWord k τ) τ := by
  unfold cWord
  by_cases e : tWi τ = k
  · rw [kif_t e]; exact cG_next h
  · rw [kif_f e]; exact cG_fail h (by omega)
theorem cSign_G {τ : Kmem} {k : Int} (h : tk1 τ) : cG (cSign k τ) τ := by
  unfold cSign
  by_cases e : τ 0 12 = 4 ∧ τ 0 15 = k
  · rw [kif_t e]; exact cG_next h
  · rw [kif_f e]; exact cG_fail h (by omega)
theorem tok_1 {τ : Kmem} {j y : Int} (h : tok τ) : tok (kup τ 1 j y) := by
  have f1 : (kup τ 1 j y) 0 = τ 0 := kup_o (by omega)
  have f7 : (kup τ 1 j y) 7 = τ 7 := kup_o (by omega)
  have b : ∀ i, bA (kup τ 1 j y) i = bA τ i := fun i => by unfold bA; rw [f1, f7]
  unfold tok txt at *
  rw [f1, f7]
  simp only [b]
  exact h
theorem tok_2 {τ : Kmem} {j y : Int} (h : tok τ) : tok (kup τ 2 j y) := by
  have f1 : (kup τ 2 j y) 0 = τ 0 := kup_o (by omega)
  have f7 : (kup τ 2 j y) 7 = τ 7 := kup_o (by omega)
  have b : ∀ i, bA (kup τ 2 j y) i = bA τ i := fun i => by unfold bA; rw [f1, f7]
  unfold tok txt at *
  rw [f1, f7]
  simp only [b]
  exact h
theorem tk1_1 {τ : Kmem} {j y : Int} (h : tk1 τ) : tk1 (kup τ 1 j y) := ⟨tok_1 h.1, by rw [kup_o (x := 0) (by omega)]; exact h.2⟩
theorem tk1_2 {τ : Kmem} {j y : Int} (h : tk1 τ) : tk1 (kup τ 2 j y) := ⟨tok_2 h.1, by rw [kup_o (x := 0) (by omega)]; exact h.2⟩
theorem cG_up {τ : Kmem} {j y : Int} (h : tk1 τ) (hj : 2056 ≤ j ∧ j < 2570) : cG (True, kup τ 1 j y) τ := ⟨fT0_1 hj, fun _ => tk1_1 h, fun n => absurd trivial n, fun n => nm_same (show (kup τ 1 j y) 2 = τ 2 from kup_o (by omega)) n⟩
theorem cG_via {r : Prop × Kmem} {u τ : Kmem} (h : cG r u) (f : fT0 u τ) (n : nmR τ → nmR u) : cG r τ := ⟨h.1.trans f, h.2.1, h.2.2.1, fun z => h.2.2.2 (n z)⟩
theorem cNum_G {τ : Kmem} {to lo hi : Int} (h : tk1 τ) (ht : 2056 ≤ to ∧ to < 2570) : cG (cNum to lo hi τ) τ := by
  unfold cNum
  by_cases e : τ 0 12 = 3
  · rw [kif_t e]
    by_cases e2 : lo ≤ τ 0 15 ∧ τ 0 15 ≤ hi
    · rw [kif_t e2]
      exact cG_via (cG_next (tk1_1 h)) (fT0_1 ht) (fun n => nm_same (kup_o (by omega)) n)
    · rw [kif_f e2]; exact cG_fail h (by omega)
  · rw [kif_f e]; exact cG_fail h (by omega)
/-- a number was read -/
theorem cNum_t {τ : Kmem} {to lo hi : Int} (h : (cNum to lo hi τ).1) : (τ 0 12 = 3 ∧ lo ≤ τ 0 15 ∧ τ 0 15 ≤ hi) ∧ (cNum to lo hi τ).2 = tA (kup τ 1 to (τ 0 15)) := by
  unfold cNum at *
  by_cases e : τ 0 12 = 3
  · rw [kif_t e] at h ⊢
    by_cases e2 : lo ≤ τ 0 15 ∧ τ 0 15 ≤ hi
    · rw [kif_t e2]; exact ⟨⟨e, e2⟩, rfl⟩
    · rw [kif_f e2] at h; exact h.elim
  · rw [kif_f e] at h; exact h.elim
theorem cNum_v {τ : Kmem} {to lo hi : Int} (h : (cNum to lo hi τ).1) : ∃ x, (lo ≤ x ∧ x ≤ hi) ∧ x = τ 0 15 ∧ (cNum to lo hi τ).2 1 = ku (τ 1) to x ∧ (cNum to lo hi τ).2 2 = τ 2 := by
  obtain ⟨a, b⟩ := cNum_t h
  refine ⟨τ 0 15, a.2, rfl, ?_, ?_⟩
  · rw [b, tA_fr.1 1 (by omega), kup_k, kst_eq]
  · rw [b, tA_fr.1 2 (by omega), kup_o (by omega)]
theorem cWord_v {τ : Kmem} {k : Int} (h : (cWord k τ).1) : tWi τ = k ∧ (cWord k τ).2 = tA τ := by
  unfold cWord at *
  by_cases e : tWi τ = k
  · rw [kif_t e]; exact ⟨e, rfl⟩
  · rw [kif_f e] at h; exact h.elim
theorem cSign_v {τ : Kmem} {k : Int} (h : (cSign k τ).1) : (τ 0 12 = 4 ∧ τ 0 15 = k) ∧ (cSign k τ).2 = tA τ := by
  unfold cSign at *
  by_cases e : τ 0 12 = 4 ∧ τ 0 15 = k
  · rw [kif_t e]; exact ⟨e, rfl⟩
  · rw [kif_f e] at h; exact h.elim
/-- a county that is being read -/
def cty (τ : Kmem) : Prop := ((0 ≤ τ 1 2056 ∧ τ 1 2056 ≤ 9) ∧ (0 ≤ τ 1 2057 ∧ τ 1 2057 ≤ 7)) ∧ (0 ≤ τ 1 2058 ∧ τ 1 2058 ≤ 6) ∧ (0 ≤ τ 1 2059 ∧ τ 1 2059 ≤ 8) ∧ (0 ≤ τ 1 2060 ∧ τ 1 2060 ≤ 6)
abbrev tk3 (τ : Kmem) : Prop := tk1 τ ∧ nmR τ
abbrev tk2 (τ : Kmem) : Prop := tk1 τ ∧ nmR τ ∧ cty τ
abbrev pNew (a b c : Int) : Prop := (a = 2 ∧ b = 6 ∧ c = 0) ∨ (a = 3 ∧ b = 8 ∧ c = 6) ∨ (a = 4 ∧ b = 6 ∧ c = 14)
abbrev pOld (a b c : Int) : Prop := (0 ≤ a ∧ 0 ≤ b ∧ a + b ≤ 120) ∧ 2056 ≤ c ∧ c < 2570
abbrev tNk (τ : Kmem) : Prop := τ 0 12 = 2 ∧ τ 0 14 - τ 0 13 ≤ 8 ∧ tWi τ = -1
def tFd (u : Kmem) : Prop := tFi u 80 (u 1 2058) ≠ -1 ∨ tFi u 86 (u 1 2059) ≠ -1 ∨ tFi u 94 (u 1 2060) ≠ -1
noncomputable def cNew (a b c : Int) (τ : Kmem) : Prop × Kmem := kif (τ 1 (2056 + a) = b) (False, tF τ 6) (kif (tNk (tA τ)) (kif (tFd (tA τ)) (False, tF (tA τ) 3) (True, tA (kup (tA τ) 2 (80 + c + tA τ 1 (2056 + a)) (tNm (tA τ))))) (False, tF (tA τ) 2))
noncomputable def cOld (a b to : Int) (τ : Kmem) : Prop × Kmem := kif (tNk τ) (kif (tFi τ a b = -1) (False, tF (kup τ 1 to (tFi τ a b)) 3) (True, tA (kup τ 1 to (tFi τ a b)))) (False, tF τ 2)
noncomputable def cFld (to : Int) (τ : Kmem) : Prop × Kmem := cThen (cWord 8 τ) (fun u => cThen (cNum to 0 (u 1 2056 - 1) u) (fun w => cNum (to + 1) 0 (w 1 2057 - 1) w))
noncomputable def cLand (τ : Kmem) : Prop × Kmem := cThen (cNum 2056 1 9 (tA τ)) (fun u => cThen (cWord 7 u) (fun w => cNum 2057 1 7 w))
noncomputable def cWind (τ : Kmem) : Prop × Kmem := cThen (cNum 2566 0 11 (tA τ)) (fun u => cThen (cNum (2066 + 2 * u 1 2566) 0 7 u) (fun w => cNum (2066 + 2 * u 1 2566 + 1) 0 3 w))
noncomputable def cTrait (k to hi : Int) (τ : Kmem) : Prop × Kmem := kif (tWi τ = k) (cNum to 0 hi (tA τ)) (True, τ)
def kKit (τ : Kmem) (b : Int) : Kmem := kup (kup (kup τ 1 (b + 2) 1) 1 (b + 3) 3) 1 (b + 4) 1
def kInc (τ : Kmem) (j : Int) : Kmem := kup τ 1 j (τ 1 j + 1)
noncomputable def cKit2 (b : Int) (u : Kmem) : Prop × Kmem := cThen (cTrait 9 (b + 2) 2 u) (fun u1 => cThen (cTrait 10 (b + 3) 9 u1) (fun u2 => cThen (cTrait 11 (b + 4) 3 u2) (fun u3 => cThen (cTrait 12 (b + 7) 7 u3) (fun u4 => (True, kInc u4 2058)))))
noncomputable def cKite (τ : Kmem) : Prop × Kmem := cThen (cNew 2 6 0 τ) (fun u => cThen (cFld (2090 + 9 * τ 1 2058) u) (fun w => cKit2 (2090 + 9 * τ 1 2058) (kKit w (2090 + 9 * τ 1 2058))))
noncomputable def cCrop (τ : Kmem) : Prop × Kmem := cThen (cNew 3 8 6 τ) (fun u => cThen (cFld (2144 + 4 * τ 1 2059) u) (fun w => cThen (cWord 13 w) (fun y => cThen (cNum (2144 + 4 * τ 1 2059 + 2) 1 99 y) (fun z => (True, kInc z 2059)))))
noncomputable def cTen (τ : Kmem) : Prop × Kmem := cThen (cNew 4 6 14 τ) (fun u => cThen (cFld (2176 + 5 * τ 1 2060) u) (fun w => cThen (cWord 14 w) (fun y => cThen (cOld 80 (y 1 2058) (2176 + 5 * τ 1 2060 + 2) y) (fun z => (True, kInc z 2060)))))
theorem cTrait_G {τ : Kmem} {k to hi : Int} (h : tk1 τ) (ht : 2056 ≤ to ∧ to < 2570) : cG (cTrait k to hi τ) τ := by
  unfold cTrait
  by_cases e : tWi τ = k
  · rw [kif_t e]
    have t := tA_k1 (tok_x0 h.1) h.2
    exact cG_via (cNum_G t ht) fT0_tA (fun n => nm_same (tA_fr.1 2 (by omega)) n)
  · rw [kif_f e]; exact ⟨fT0.refl, fun _ => h, fun n => absurd trivial n, fun n => n⟩
theorem cNew_G {τ : Kmem} {a b c : Int} (h : tk2 τ) (p : pNew a b c) : cG (cNew a b c τ) τ := by
  obtain ⟨h1, hn, hc⟩ := h
  have t := tA_k1 (tok_x0 h1.1) h1.2
  have v : fT0 (tA τ) τ := fT0_tA
  have nA : nmR τ → nmR (tA τ) := fun n => nm_same (tA_fr.1 2 (by omega)) n
  unfold cNew
  by_cases e : τ 1 (2056 + a) = b
  · rw [kif_t e]; exact cG_fail h1 (by omega)
  · rw [kif_f e]
    by_cases e2 : tNk (tA τ)
    · rw [kif_t e2]
      by_cases e3 : tFd (tA τ)
      · rw [kif_t e3]; exact cG_via (cG_fail t (by omega)) v nA
      · rw [kif_f e3]
        have e1 : tA τ 1 (2056 + a) = τ 1 (2056 + a) := by rw [tA_fr.1 1 (by omega)]
        have hr : 80 ≤ 80 + c + tA τ 1 (2056 + a) ∧ 80 + c + tA τ 1 (2056 + a) < 100 := by
          rw [e1]
          obtain ⟨-, c2, c3, c4⟩ := hc
          rcases p with ⟨rfl, rfl, rfl⟩ | ⟨rfl, rfl, rfl⟩ | ⟨rfl, rfl, rfl⟩ <;> (simp only [Int.reduceAdd] at e ⊢; omega)
        refine cG_via (cG_next (tk1_2 t)) ((fT0_2 hr).trans v) (fun n j x y => ?_)
        have n2 := nA n
        by_cases ej : j = 80 + c + tA τ 1 (2056 + a)
        · rw [ej, kup_at]; exact tNm_r t.1 e2.1 e2.2.1
        · rw [kup_j ej]; exact n2 j x y
    · rw [kif_f e2]; exact cG_via (cG_fail t (by omega)) v nA
theorem cOld_G {τ : Kmem} {a b c : Int} (h : tk3 τ) (p : pOld a b c) : cG (cOld a b c τ) τ := by
  obtain ⟨h1, hn⟩ := h
  have n1 : ∀ y, nmR τ → nmR (kup τ 1 c y) := fun y n => nm_same (kup_o (by omega)) n
  unfold cOld
  by_cases e : tNk τ
  · rw [kif_t e]
    by_cases e2 : tFi τ a b = -1
    · rw [kif_t e2]; exact cG_via (cG_fail (tk1_1 h1) (by omega)) (fT0_1 p.2) (n1 _)
    · rw [kif_f e2]; exact cG_via (cG_next (tk1_1 h1)) (fT0_1 p.2) (n1 _)
  · rw [kif_f e]; exact cG_fail h1 (by omega)
theorem cFld_G {τ : Kmem} {to : Int} (h : tk1 τ) (ht : 2090 ≤ to ∧ to < 2500) : cG (cFld to τ) τ :=
  cThen_G (cWord_G h) (fun e => cThen_G (cNum_G ((cWord_G h).2.1 e) (by omega)) (fun e2 => cNum_G ((cNum_G ((cWord_G h).2.1 e) (by omega)).2.1 e2) (by omega)))
theorem cLand_G {τ : Kmem} (h : tk1 τ) : cG (cLand τ) τ := by
  have t := tA_k1 (tok_x0 h.1) h.2
  exact cG_via (cThen_G (cNum_G t (by omega)) (fun e => cThen_G (cWord_G ((cNum_G t (by omega)).2.1 e)) (fun e2 => cNum_G ((cWord_G ((cNum_G t (by omega)).2.1 e)).2.1 e2) (by omega)))) fT0_tA (fun n => nm_same (tA_fr.1 2 (by omega)) n)
theorem cWind_G {τ : Kmem} (h : tk1 τ) : cG (cWind τ) τ := by
  have t := tA_k1 (tok_x0 h.1) h.2
  refine cG_via (cThen_G (cNum_G t (by omega)) (fun e => ?_)) fT0_tA (fun n => nm_same (tA_fr.1 2 (by omega)) n)
  have t1 := (cNum_G (to := 2566) (lo := 0) (hi := 11) t (by omega)).2.1 e
  obtain ⟨x, hx, -, v1, -⟩ := cNum_v e
  have e66 : (cNum 2566 0 11 (tA τ)).2 1 2566 = x := by rw [v1, ku_eq]
  refine cThen_G (cNum_G t1 (by rw [e66]; omega)) (fun e2 => ?_)
  exact cNum_G ((cNum_G t1 (by rw [e66]; omega)).2.1 e2) (by rw [e66]; omega)
theorem kInc_G {τ : Kmem} {j : Int} (h : tk1 τ) (hj : 2056 ≤ j ∧ j < 2570) : cG (True, kInc τ j) τ := cG_up h hj
theorem cKit2_G {u : Kmem} {b : Int} (h : tk1 u) (hb : 2090 ≤ b ∧ b ≤ 2140) : cG (cKit2 b u) u := by
  unfold cKit2
  refine cThen_G (cTrait_G h (by omega)) (fun e1 => ?_)
  have h1 := (cTrait_G (k := 9) (to := b + 2) (hi := 2) h (by omega)).2.1 e1
  refine cThen_G (cTrait_G h1 (by omega)) (fun e2 => ?_)
  have h2 := (cTrait_G (k := 10) (to := b + 3) (hi := 9) h1 (by omega)).2.1 e2
  refine cThen_G (cTrait_G h2 (by omega)) (fun e3 => ?_)
  have h3 := (cTrait_G (k := 11) (to := b + 4) (hi := 3) h2 (by omega)).2.1 e3
  refine cThen_G (cTrait_G h3 (by omega)) (fun e4 => ?_)
  exact kInc_G ((cTrait_G (k := 12) (to := b + 7) (hi := 7) h3 (by omega)).2.1 e4) (by omega)
theorem kKit_k {w : Kmem} {b : Int} (h : tk1 w) (hb : 2090 ≤ b ∧ b ≤ 2140) : tk1 (kKit w b) ∧ fT0 (kKit w b) w ∧ kKit w b 2 = w 2 := ⟨tk1_1 (tk1_1 (tk1_1 h)), (fT0_1 (by omega)).trans ((fT0_1 (by omega)).trans (fT0_1 (by omega))), by unfold kKit; rw [kup_o (by omega), kup_o (by omega), kup_o (by omega)]⟩
theorem cNew_v {τ : Kmem} {a b c : Int} (h : (cNew a b c τ).1) : (τ 1 (2056 + a) ≠ b ∧ tNk (tA τ) ∧ ¬ tFd (tA τ)) ∧ (cNew a b c τ).2 = tA (kup (tA τ) 2 (80 + c + τ 1 (2056 + a)) (tNm (tA τ))) := by
  have e1 : tA τ 1 (2056 + a) = τ 1 (2056 + a) := by rw [tA_fr.1 1 (by omega)]
  unfold cNew at *
  by_cases e : τ 1 (2056 + a) = b
  · rw [kif_t e] at h; exact h.elim
  · rw [kif_f e] at h ⊢
    by_cases e2 : tNk (tA τ)
    · rw [kif_t e2] at h ⊢
      by_cases e3 : tFd (tA τ)
      · rw [kif_t e3] at h; exact h.elim
      · rw [kif_f e3, e1]; exact ⟨⟨e, e2, e3⟩, rfl⟩
    · rw [kif_f e2] at h; exact h.elim
theorem cNew_1 {τ : Kmem} {a b c : Int} (h : (cNew a b c τ).1) : (cNew a b c τ).2 1 = τ 1 ∧ (cNew a b c τ).2 2 = ku (τ 2) (80 + c + τ 1 (2056 + a)) (tNm (tA τ)) := by
  rw [(cNew_v h).2]
  exact ⟨by rw [tA_fr.1 1 (by omega), kup_o (by omega), tA_fr.1 1 (by omega)], by rw [tA_fr.1 2 (by omega), kup_k, kst_eq, tA_fr.1 2 (by omega)]⟩
theorem cKite_G {τ : Kmem} (h : tk2 τ) : cG (cKite τ) τ := by
  have hc := h.2.2.2.1
  refine cThen_G (cNew_G h (Or.inl ⟨rfl, rfl, rfl⟩)) (fun e => ?_)
  have h1 := (cNew_G h (Or.inl ⟨rfl, rfl, rfl⟩)).2.1 e
  have ne := (cNew_v e).1.1
  have ne : τ 1 2058 ≠ 6 := ne
  refine cThen_G (cFld_G h1 (by omega)) (fun e2 => ?_)
  have h2 := (cFld_G h1 (to := 2090 + 9 * τ 1 2058) (by omega)).2.1 e2
  have k := kKit_k h2 (b := 2090 + 9 * τ 1 2058) (by omega)
  exact cG_via (cKit2_G k.1 (by omega)) k.2.1 (fun n => nm_same k.2.2 n)
theorem cCrop_G {τ : Kmem} (h : tk2 τ) : cG (cCrop τ) τ := by
  have hc := h.2.2.2.2.1
  refine cThen_G (cNew_G h (Or.inr (Or.inl ⟨rfl, rfl, rfl⟩))) (fun e => ?_)
  have h1 := (cNew_G h (Or.inr (Or.inl ⟨rfl, rfl, rfl⟩))).2.1 e
  refine cThen_G (cFld_G h1 (by omega)) (fun e2 => ?_)
  have h2 := (cFld_G h1 (to := 2144 + 4 * τ 1 2059) (by omega)).2.1 e2
  refine cThen_G (cWord_G h2) (fun e3 => ?_)
  have h3 := (cWord_G (k := 13) h2).2.1 e3
  refine cThen_G (cNum_G h3 (by omega)) (fun e4 => ?_)
  exact kInc_G ((cNum_G (to := 2144 + 4 * τ 1 2059 + 2) (lo := 1) (hi := 99) h3 (by omega)).2.1 e4) (by omega)
theorem cFld_v {τ : Kmem} {to : Int} (ht : 2090 ≤ to) (h : (cFld to τ).1) : ∃ x y, ((0 ≤ x ∧ x < τ 1 2056) ∧ 0 ≤ y ∧ y < τ 1 2057) ∧ (cFld to τ).2 1 = ku (ku (τ 1) to x) (to + 1) y ∧ (cFld to τ).2 2 = τ 2 := by
  unfold cFld at *
  by_cases e : (cWord 8 τ).1
  · have w := (cWord_v e).2
    rw [cThen_t e] at h ⊢
    rw [w] at h ⊢
    by_cases e2 : (cNum to 0 (tA τ 1 2056 - 1) (tA τ)).1
    · rw [cThen_t e2] at h ⊢
      obtain ⟨x, hx, -, v1, v2⟩ := cNum_v e2
      obtain ⟨y, hy, -, w1, w2⟩ := cNum_v h
      have eA : tA τ 1 = τ 1 := tA_fr.1 1 (by omega)
      have q : (cNum to 0 (tA τ 1 2056 - 1) (tA τ)).2 1 = ku (τ 1) to x := by rw [v1, eA]
      rw [q, ku_ne (by omega)] at hy
      rw [eA] at hx
      exact ⟨x, y, by omega, by rw [w1, q], by rw [w2, v2, tA_fr.1 2 (by omega)]⟩
    · rw [cThen_f e2] at h; exact h.elim
  · rw [cThen_f e] at h; exact h.elim
theorem cTen_G {τ : Kmem} (h : tk2 τ) : cG (cTen τ) τ := by
  have hc := h.2.2.2.2.2
  have hk := h.2.2.2.1
  refine cThen_G (cNew_G h (Or.inr (Or.inr ⟨rfl, rfl, rfl⟩))) (fun e => ?_)
  have g1 := cNew_G h (Or.inr (Or.inr ⟨rfl, rfl, rfl⟩))
  have h1 := g1.2.1 e
  have v1 := (cNew_1 e).1
  refine cThen_G (cFld_G h1 (by omega)) (fun e2 => ?_)
  have g2 := cFld_G h1 (to := 2176 + 5 * τ 1 2060) (by omega)
  have h2 := g2.2.1 e2
  obtain ⟨x, y, hxy, f1, f2⟩ := cFld_v (by omega) e2
  refine cThen_G (cWord_G h2) (fun e3 => ?_)
  have g3 := cWord_G (k := 14) h2
  have h3 := g3.2.1 e3
  have e58 : (cWord 14 (cFld (2176 + 5 * τ 1 2060) (cNew 4 6 14 τ).2).2).2 1 2058 = τ 1 2058 := by
    rw [(cWord_v e3).2, tA_fr.1 1 (by omega), f1, ku_ne (by omega), ku_ne (by omega), v1]
  have po : pOld 80 ((cWord 14 (cFld (2176 + 5 * τ 1 2060) (cNew 4 6 14 τ).2).2).2 1 2058) (2176 + 5 * τ 1 2060 + 2) := by rw [e58]; exact ⟨by omega, by omega⟩
  have n3 := g3.2.2.2 (g2.2.2.2 (g1.2.2.2 h.2.1))
  refine cThen_G (cOld_G ⟨h3, n3⟩ po) (fun e4 => ?_)
  exact kInc_G ((cOld_G ⟨h3, n3⟩ po).2.1 e4) (by omega)
