/-! a part of a county -/
noncomputable def cBody (k : Int) (u : Kmem) : Prop × Kmem := if k = 0 then cLand u else if k = 1 then cWind u else if k = 2 then cNum 2061 0 11 (tA u) else if k = 3 then cNum 2062 0 2 (tA u) else if k = 4 then cKite u else if k = 5 then cCrop u else cTen u
def kTo (T k : Int) : Int := if k = 0 then T + 1 else if k = 2 then T + 4 else if k = 3 then T + 8 else T
noncomputable def cPart (τ : Kmem) : Prop × Kmem := kif (tWi τ < 0 ∨ 6 < tWi τ ∨ (tWi τ ≠ 0 ∧ τ 0 20 % 2 = 0)) (False, tF τ 2) (kif (τ 0 20 / 2 ^ (tWi τ).toNat % 2 = 1) (False, tF τ 5) (cThen (cBody (tWi τ) (kup τ 0 20 (kTo (τ 0 20) (tWi τ)))) (cSign 59)))
theorem told_b0 : ∀ T : Fin 16, ∀ k : Fin 7, kand (kshr ((T.1 : Nat) : Int) ((k.1 : Nat) : Int)) 1 = ((T.1 / 2 ^ k.1 % 2 : Nat) : Int) ∧ kand ((T.1 : Nat) : Int) 1 = ((T.1 % 2 : Nat) : Int) := by decide +kernel
theorem told_b1 : ∀ T : Fin 16, ∀ k : Fin 7, (T.1 / 2 ^ k.1 % 2 = 1) ∨ (((k.1 ≠ 0 ∧ k.1 ≠ 2 ∧ k.1 ≠ 3) ∨ kor ((T.1 : Nat) : Int) (kshl 1 ((k.1 : Nat) : Int)) = kTo ((T.1 : Nat) : Int) ((k.1 : Nat) : Int)) ∧ (k.1 = 0 ∨ k.1 = 2 ∨ k.1 = 3 ∨ kor ((T.1 : Nat) : Int) 0 = kTo ((T.1 : Nat) : Int) ((k.1 : Nat) : Int)) ∧ 0 ≤ kTo ((T.1 : Nat) : Int) ((k.1 : Nat) : Int) ∧ kTo ((T.1 : Nat) : Int) ((k.1 : Nat) : Int) < 16) := by decide +kernel
theorem told_bits {T k : Int} (hT : 0 ≤ T ∧ T < 16) (hk : 0 ≤ k ∧ k < 7) : kand (kshr T k) 1 = T / 2 ^ k.toNat % 2 ∧ kand T 1 = T % 2 ∧ (T / 2 ^ k.toNat % 2 ≠ 1 → (k = 0 ∨ k = 2 ∨ k = 3 → kor T (kshl 1 k) = kTo T k) ∧ (k ≠ 0 → k ≠ 2 → k ≠ 3 → kor T 0 = kTo T k) ∧ 0 ≤ kTo T k ∧ kTo T k < 16) := by
  obtain ⟨a, rfl⟩ := Int.eq_ofNat_of_zero_le hT.1
  obtain ⟨b, rfl⟩ := Int.eq_ofNat_of_zero_le hk.1
  have h0 := told_b0 ⟨a, by omega⟩ ⟨b, by omega⟩
  have h1 := told_b1 ⟨a, by omega⟩ ⟨b, by omega⟩
  have e : ((a : Nat) : Int) / 2 ^ ((b : Nat) : Int).toNat % 2 = ((a / 2 ^ b % 2 : Nat) : Int) := by
    rw [Int.toNat_natCast]; push_cast; rfl
  rw [e]
  refine ⟨h0.1, by rw [h0.2]; push_cast; rfl, fun n => ?_⟩
  rcases h1 with h1 | h1
  · exact absurd (by exact_mod_cast h1) n
  · refine ⟨fun q => ?_, fun q1 q2 q3 => ?_, h1.2.2.1, h1.2.2.2⟩
    · rcases h1.1 with z | z
      · simp only at z; omega
      · exact z
    · rcases h1.2.1 with z | z | z | z
      · simp only at z; omega
      · simp only at z; omega
      · simp only at z; omega
      · exact z
theorem tk1_20 {τ : Kmem} {y : Int} (h : tk1 τ) : tk1 (kup τ 0 20 y) ∧ (∀ x, x ≠ 0 → (kup τ 0 20 y) x = τ x) ∧ (∀ j, j ≠ 20 → (kup τ 0 20 y) 0 j = τ 0 j) := by
  have v : ∀ j, j ≠ 20 → (kup τ 0 20 y) 0 j = τ 0 j := fun j hj => kup_j hj
  have o : (kup τ 0 20 y) 7 = τ 7 := kup_o (by omega)
  have b : ∀ i, bA (kup τ 0 20 y) i = bA τ i := fun i => by unfold bA; rw [v 11 (by omega), o]
  refine ⟨⟨?_, by rw [v 18 (by omega)]; exact h.2⟩, fun x hx => kup_o hx, v⟩
  have h := h.1
  unfold tok txt at *
  rw [v 11 (by omega), v 12 (by omega), v 13 (by omega), v 14 (by omega), v 15 (by omega), o]
  simp only [b]
  exact h
/-- how far one has come: the token behind begins where the one ahead ends, or later -/
abbrev m1 (r : Prop × Kmem) (τ : Kmem) : Prop := r.1 → τ 0 14 ≤ r.2 0 13
abbrev m0 (r : Prop × Kmem) (τ : Kmem) : Prop := r.1 → τ 0 13 ≤ r.2 0 13
theorem tA_m {τ : Kmem} (h : tx0 τ) : τ 0 14 ≤ tA τ 0 13 := by rw [tA_v.1]; exact (tS_ok h).1.1
theorem m1_then {r : Prop × Kmem} {f : Kmem → Prop × Kmem} {τ : Kmem} (h : m1 r τ) (g : r.1 → tk1 r.2) (k : r.1 → m0 (f r.2) r.2) : m1 (cThen r f) τ := by
  by_cases e : r.1
  · rw [m1, cThen_t e]; intro y
    have := h e
    have := k e y
    omega
  · rw [m1, cThen_f e]; exact fun y => y.elim
theorem m1_m0 {r : Prop × Kmem} {τ : Kmem} (ht : tk1 τ) (h : m1 r τ) : m0 r τ := fun y => by have := h y; have := ht.1.2.1; omega
theorem cWord_m {τ : Kmem} {k : Int} (h : tk1 τ) : m1 (cWord k τ) τ := fun y => by rw [(cWord_v y).2]; exact tA_m (tok_x0 h.1)
theorem cSign_m {τ : Kmem} {k : Int} (h : tk1 τ) : m1 (cSign k τ) τ := fun y => by rw [(cSign_v y).2]; exact tA_m (tok_x0 h.1)
theorem cNum_m {τ : Kmem} {to lo hi : Int} (h : tk1 τ) : m1 (cNum to lo hi τ) τ := fun y => by
  rw [(cNum_t y).2]
  have := tA_m (tok_x0 (tok_1 (j := to) (y := τ 0 15) h.1))
  rw [kup_x (by omega)] at this
  exact this
theorem via_m1 {r : Prop × Kmem} {u τ : Kmem} (h : m1 r u) (e : τ 0 14 ≤ u 0 14) : m1 r τ := fun y => by have := h y; omega
theorem tA_e {τ : Kmem} (h : tx0 τ) : τ 0 14 ≤ tA τ 0 14 := by
  have := (tA_tok h).2.1
  have := tA_m h
  omega
theorem cNew_m {τ : Kmem} {a b c : Int} (h : tk1 τ) : m1 (cNew a b c τ) τ := fun y => by
  rw [(cNew_v y).2]
  have t := tA_k1 (tok_x0 h.1) h.2
  have := tA_m (tok_x0 (tok_2 (j := 80 + c + τ 1 (2056 + a)) (y := tNm (tA τ)) t.1))
  rw [kup_x (by omega)] at this
  have := tA_e (tok_x0 h.1)
  omega
theorem cOld_v {τ : Kmem} {a b to : Int} (h : (cOld a b to τ).1) : (tNk τ ∧ tFi τ a b ≠ -1) ∧ (cOld a b to τ).2 = tA (kup τ 1 to (tFi τ a b)) := by
  unfold cOld at *
  by_cases e : tNk τ
  · rw [kif_t e] at h ⊢
    by_cases e2 : tFi τ a b = -1
    · rw [kif_t e2] at h; exact h.elim
    · rw [kif_f e2]; exact ⟨⟨e, e2⟩, rfl⟩
  · rw [kif_f e] at h; exact h.elim
theorem cOld_m {τ : Kmem} {a b to : Int} (h : tk1 τ) : m1 (cOld a b to τ) τ := fun y => by
  rw [(cOld_v y).2]
  have := tA_m (tok_x0 (tok_1 (j := to) (y := tFi τ a b) h.1))
  rw [kup_x (by omega)] at this
  exact this
theorem cFld_m {τ : Kmem} {to : Int} (h : tk1 τ) (ht : 2090 ≤ to ∧ to < 2500) : m1 (cFld to τ) τ := by
  refine m1_then (cWord_m h) (fun e => (cWord_G h).2.1 e) (fun e => ?_)
  have h2 := (cWord_G h).2.1 e
  refine m1_m0 h2 (m1_then (cNum_m h2) (fun e2 => (cNum_G h2 (by omega)).2.1 e2) (fun e2 => ?_))
  exact m1_m0 ((cNum_G h2 (by omega)).2.1 e2) (cNum_m ((cNum_G h2 (by omega)).2.1 e2))
theorem cTrait_m {τ : Kmem} {k to hi : Int} (h : tk1 τ) : m0 (cTrait k to hi τ) τ := by
  unfold cTrait
  by_cases e : tWi τ = k
  · rw [m0, kif_t e]
    intro y
    have t := tA_k1 (tok_x0 h.1) h.2
    have := cNum_m t y
    have := tA_e (tok_x0 h.1)
    have := h.1.2.1
    omega
  · rw [m0, kif_f e]; intro _; exact Int.le_refl _
theorem m0_then {r : Prop × Kmem} {f : Kmem → Prop × Kmem} {τ : Kmem} (h : m0 r τ) (k : r.1 → m0 (f r.2) r.2) : m0 (cThen r f) τ := by
  by_cases e : r.1
  · rw [m0, cThen_t e]; intro y
    have := h e
    have := k e y
    omega
  · rw [m0, cThen_f e]; exact fun y => y.elim
theorem kInc_m {τ : Kmem} {j : Int} : m0 (True, kInc τ j) τ := fun _ => by
  show τ 0 13 ≤ (kup τ 1 j (τ 1 j + 1)) 0 13
  rw [kup_x (by omega)]; exact Int.le_refl _
theorem cKit2_m {u : Kmem} {b : Int} (h : tk1 u) (hb : 2090 ≤ b ∧ b ≤ 2140) : m0 (cKit2 b u) u := by
  unfold cKit2
  refine m0_then (cTrait_m h) (fun e1 => ?_)
  have h1 := (cTrait_G (k := 9) (to := b + 2) (hi := 2) h (by omega)).2.1 e1
  refine m0_then (cTrait_m h1) (fun e2 => ?_)
  have h2 := (cTrait_G (k := 10) (to := b + 3) (hi := 9) h1 (by omega)).2.1 e2
  refine m0_then (cTrait_m h2) (fun e3 => ?_)
  have h3 := (cTrait_G (k := 11) (to := b + 4) (hi := 3) h2 (by omega)).2.1 e3
  exact m0_then (cTrait_m h3) (fun e4 => kInc_m)
theorem cBody_G {u : Kmem} {k : Int} (h : tk2 u) : cG (cBody k u) u ∧ m1 (cBody k u) u := by
  have h1 := h.1
  have t := tA_k1 (tok_x0 h1.1) h1.2
  have te := tA_e (tok_x0 h1.1)
  have nA : nmR u → nmR (tA u) := fun n => nm_same (tA_fr.1 2 (by omega)) n
  have hc := h.2.2
  unfold cBody
  split
  · refine ⟨cLand_G h1, via_m1 (m1_then (cNum_m t) (fun e => (cNum_G t (by omega)).2.1 e) (fun e => ?_)) te⟩
    have h2 := (cNum_G (to := 2056) (lo := 1) (hi := 9) t (by omega)).2.1 e
    exact m1_m0 h2 (m1_then (cWord_m h2) (fun e2 => (cWord_G h2).2.1 e2) (fun e2 => m1_m0 ((cWord_G h2).2.1 e2) (cNum_m ((cWord_G h2).2.1 e2))))
  split
  · refine ⟨cWind_G h1, via_m1 (m1_then (cNum_m t) (fun e => (cNum_G t (by omega)).2.1 e) (fun e => ?_)) te⟩
    have h2 := (cNum_G (to := 2566) (lo := 0) (hi := 11) t (by omega)).2.1 e
    obtain ⟨x, hx, -, v1, -⟩ := cNum_v e
    have e66 : (cNum 2566 0 11 (tA u)).2 1 2566 = x := by rw [v1, ku_eq]
    refine m1_m0 h2 (m1_then (cNum_m h2) (fun e2 => (cNum_G h2 (by rw [e66]; omega)).2.1 e2) (fun e2 => ?_))
    have h3 := (cNum_G (lo := 0) (hi := 7) h2 (show 2056 ≤ 2066 + 2 * (cNum 2566 0 11 (tA u)).2 1 2566 ∧ 2066 + 2 * (cNum 2566 0 11 (tA u)).2 1 2566 < 2570 by rw [e66]; omega)).2.1 e2
    exact m1_m0 h3 (cNum_m h3)
  split
  · exact ⟨cG_via (cNum_G t (by omega)) fT0_tA nA, via_m1 (cNum_m t) te⟩
  split
  · exact ⟨cG_via (cNum_G t (by omega)) fT0_tA nA, via_m1 (cNum_m t) te⟩
  split
  · refine ⟨cKite_G h, m1_then (cNew_m h1) (fun e => (cNew_G h (Or.inl ⟨rfl, rfl, rfl⟩)).2.1 e) (fun e => ?_)⟩
    have hk := hc.2.1
    have ne : u 1 2058 ≠ 6 := (cNew_v e).1.1
    have h2 := (cNew_G h (Or.inl ⟨rfl, rfl, rfl⟩)).2.1 e
    refine m1_m0 h2 (m1_then (cFld_m h2 (by omega)) (fun e2 => (cFld_G h2 (by omega)).2.1 e2) (fun e2 => ?_))
    have h3 := (cFld_G h2 (to := 2090 + 9 * u 1 2058) (by omega)).2.1 e2
    have k := kKit_k h3 (b := 2090 + 9 * u 1 2058) (by omega)
    have := cKit2_m k.1 (show 2090 ≤ 2090 + 9 * u 1 2058 ∧ 2090 + 9 * u 1 2058 ≤ 2140 by omega)
    intro y
    have := this y
    have e13 : kKit (cFld (2090 + 9 * u 1 2058) (cNew 2 6 0 u).2).2 (2090 + 9 * u 1 2058) 0 13 = (cFld (2090 + 9 * u 1 2058) (cNew 2 6 0 u).2).2 0 13 := by
      unfold kKit; rw [kup_x (by omega), kup_x (by omega), kup_x (by omega)]
    rw [e13] at this; exact this
  split
  · have hk := hc.2.2.1
    have pn : pNew 3 8 6 := Or.inr (Or.inl ⟨rfl, rfl, rfl⟩)
    refine ⟨cCrop_G h, m1_then (cNew_m h1) (fun e => (cNew_G h pn).2.1 e) (fun e => ?_)⟩
    have h2 := (cNew_G h pn).2.1 e
    refine m1_m0 h2 (m1_then (cFld_m h2 (by omega)) (fun e2 => (cFld_G h2 (by omega)).2.1 e2) (fun e2 => ?_))
    have h3 := (cFld_G h2 (to := 2144 + 4 * u 1 2059) (by omega)).2.1 e2
    refine m1_m0 h3 (m1_then (cWord_m h3) (fun e3 => (cWord_G h3).2.1 e3) (fun e3 => ?_))
    have h4 := (cWord_G (k := 13) h3).2.1 e3
    exact m0_then (m1_m0 h4 (cNum_m h4)) (fun e4 => kInc_m)
  · have hk := hc.2.1
    have hk2 := hc.2.2.2
    have pn : pNew 4 6 14 := Or.inr (Or.inr ⟨rfl, rfl, rfl⟩)
    refine ⟨cTen_G h, m1_then (cNew_m h1) (fun e => (cNew_G h pn).2.1 e) (fun e => ?_)⟩
    have g1 := cNew_G h pn
    have h2 := g1.2.1 e
    refine m1_m0 h2 (m1_then (cFld_m h2 (by omega)) (fun e2 => (cFld_G h2 (by omega)).2.1 e2) (fun e2 => ?_))
    have h3 := (cFld_G h2 (to := 2176 + 5 * u 1 2060) (by omega)).2.1 e2
    refine m1_m0 h3 (m1_then (cWord_m h3) (fun e3 => (cWord_G h3).2.1 e3) (fun e3 => ?_))
    have h4 := (cWord_G (k := 14) h3).2.1 e3
    exact m0_then (m1_m0 h4 (cOld_m h4)) (fun e4 => kInc_m)
/-- but what was told -/
def fT1 (s t : Kmem) : Prop := (∀ x, x ≠ 0 → x ≠ 1 → x ≠ 2 → s x = t x) ∧ (∀ j, (j < 12 ∨ (15 < j ∧ j ≠ 17 ∧ j ≠ 18 ∧ j ≠ 20)) → s 0 j = t 0 j) ∧ (∀ j, (j < 2056 ∨ 2570 ≤ j) → s 1 j = t 1 j) ∧ (∀ j, (j < 80 ∨ 100 ≤ j) → s 2 j = t 2 j)
theorem fT1.refl {s : Kmem} : fT1 s s := ⟨fun _ _ _ _ => rfl, fun _ _ => rfl, fun _ _ => rfl, fun _ _ => rfl⟩
theorem fT1.trans {s t u : Kmem} (h : fT1 s t) (g : fT1 t u) : fT1 s u := ⟨fun x a b c => (h.1 x a b c).trans (g.1 x a b c), fun j a => (h.2.1 j a).trans (g.2.1 j a), fun j a => (h.2.2.1 j a).trans (g.2.2.1 j a), fun j a => (h.2.2.2 j a).trans (g.2.2.2 j a)⟩
theorem fT0_1' {s t : Kmem} (h : fT0 s t) : fT1 s t := ⟨h.1, fun j a => h.2.1 j (by omega), h.2.2.1, h.2.2.2⟩
theorem fT1_20 {τ : Kmem} {y : Int} : fT1 (kup τ 0 20 y) τ := ⟨fun x a _ _ => kup_o a, fun j a => kup_j (by omega), fun j _ => by rw [kup_o (by omega)], fun j _ => by rw [kup_o (by omega)]⟩
