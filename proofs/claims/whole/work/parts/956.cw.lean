/-! the county that is being read -/
def vN (τ : Kmem) : Int → Int := fun j => τ 1 (2056 + j)
def rK (v : Int → Int) (k : Int) : Prop := (0 ≤ v (34 + 9 * k) ∧ v (34 + 9 * k) < v 0) ∧ (0 ≤ v (34 + 9 * k + 1) ∧ v (34 + 9 * k + 1) < v 1) ∧ (0 ≤ v (34 + 9 * k + 2) ∧ v (34 + 9 * k + 2) ≤ 2) ∧ (0 ≤ v (34 + 9 * k + 3) ∧ v (34 + 9 * k + 3) ≤ 9) ∧ (0 ≤ v (34 + 9 * k + 4) ∧ v (34 + 9 * k + 4) ≤ 3) ∧ (0 ≤ v (34 + 9 * k + 5) ∧ v (34 + 9 * k + 5) ≤ 9999) ∧ (0 ≤ v (34 + 9 * k + 7) ∧ v (34 + 9 * k + 7) ≤ 7) ∧ (v (34 + 9 * k + 8) = 0 ∨ v (34 + 9 * k + 8) = 1)
def rC (v : Int → Int) (c : Int) : Prop := (0 ≤ v (88 + 4 * c) ∧ v (88 + 4 * c) < v 0) ∧ (0 ≤ v (88 + 4 * c + 1) ∧ v (88 + 4 * c + 1) < v 1) ∧ (1 ≤ v (88 + 4 * c + 2) ∧ v (88 + 4 * c + 2) ≤ 99) ∧ (0 ≤ v (88 + 4 * c + 3) ∧ v (88 + 4 * c + 3) ≤ 99)
def rT (v : Int → Int) (t : Int) : Prop := (0 ≤ v (120 + 5 * t) ∧ v (120 + 5 * t) < v 0) ∧ (0 ≤ v (120 + 5 * t + 1) ∧ v (120 + 5 * t + 1) < v 1) ∧ (0 ≤ v (120 + 5 * t + 2) ∧ v (120 + 5 * t + 2) < v 2)
theorem wf_rows {v : Int → Int} : wf v ↔ wfH v ∧ wfW v ∧ (∀ k, 0 ≤ k → k < v 2 → rK v k) ∧ (∀ k, 0 ≤ k → k < v 3 → rC v k) ∧ ∀ k, 0 ≤ k → k < v 4 → rT v k := Iff.rfl
theorem rK_eq {u v : Int → Int} {k : Int} (h : rK v k) (e : ∀ d, 0 ≤ d → d < 9 → u (34 + 9 * k + d) = v (34 + 9 * k + d)) (e0 : u 0 = v 0) (e1 : u 1 = v 1) : rK u k := by
  have a := e 0 (by omega) (by omega)
  rw [Int.add_zero] at a
  unfold rK
  rw [e0, e1, a, e 1 (by omega) (by omega), e 2 (by omega) (by omega), e 3 (by omega) (by omega), e 4 (by omega) (by omega), e 5 (by omega) (by omega), e 7 (by omega) (by omega), e 8 (by omega) (by omega)]
  exact h
theorem rC_eq {u v : Int → Int} {k : Int} (h : rC v k) (e : ∀ d, 0 ≤ d → d < 4 → u (88 + 4 * k + d) = v (88 + 4 * k + d)) (e0 : u 0 = v 0) (e1 : u 1 = v 1) : rC u k := by
  have a := e 0 (by omega) (by omega)
  rw [Int.add_zero] at a
  unfold rC
  rw [e0, e1, a, e 1 (by omega) (by omega), e 2 (by omega) (by omega), e 3 (by omega) (by omega)]
  exact h
theorem rT_eq {u v : Int → Int} {k : Int} (h : rT v k) (e : ∀ d, 0 ≤ d → d < 5 → u (120 + 5 * k + d) = v (120 + 5 * k + d)) (e0 : u 0 = v 0) (e1 : u 1 = v 1) (e2 : v 2 ≤ u 2) : rT u k := by
  have a := e 0 (by omega) (by omega)
  rw [Int.add_zero] at a
  unfold rT at *
  rw [e0, e1, a, e 1 (by omega) (by omega), e 2 (by omega) (by omega)]
  omega
theorem wfW_eq {u v : Int → Int} (h : wfW v) (e : ∀ j, 10 ≤ j → j < 34 → u j = v j) : wfW u := by
  intro k a b
  rw [e _ (by omega) (by omega), e _ (by omega) (by omega)]
  exact h k a b
/-- rows that are not told yet are plain -/
def cz0 (v : Int → Int) : Prop := (∀ k, v 2 ≤ k → k < 6 → (v (34 + 9 * k + 5) = 0 ∧ v (34 + 9 * k + 6) = 0) ∧ v (34 + 9 * k + 7) = 0 ∧ v (34 + 9 * k + 8) = 0) ∧ (∀ k, v 3 ≤ k → k < 8 → v (88 + 4 * k + 3) = 0) ∧ ∀ k, v 4 ≤ k → k < 6 → v (120 + 5 * k + 3) = 0 ∧ v (120 + 5 * k + 4) = 0
def cz (v : Int → Int) (T : Int) : Prop := wf v ∧ ((T % 2 = 0 → v 0 = 0 ∧ v 2 = 0 ∧ v 3 = 0 ∧ v 4 = 0) ∧ (T % 2 ≠ 0 → v 0 ≠ 0)) ∧ cz0 v ∧ v 7 = 0 ∧ v 8 = -1
theorem cz_head {v : Int → Int} {T : Int} (h : cz v T) : wfH v := h.1.1
theorem nv_tA {τ : Kmem} : vN (tA τ) = vN τ := by unfold vN; rw [tA_fr.1 1 (by omega)]
theorem nv_num {τ : Kmem} {i lo hi to : Int} (h : (cNum to lo hi τ).1) (ht : to = 2056 + i) : (∀ j, j ≠ i → vN (cNum to lo hi τ).2 j = vN τ j) ∧ lo ≤ vN (cNum to lo hi τ).2 i ∧ vN (cNum to lo hi τ).2 i ≤ hi := by
  obtain ⟨x, hx, -, e, -⟩ := cNum_v h
  subst ht
  unfold vN
  rw [e]
  refine ⟨fun j hj => ?_, ?_⟩
  · unfold ku; rw [if_neg (by omega)]
  · rw [ku_eq]; exact hx
theorem nv_word {τ : Kmem} {k : Int} (h : (cWord k τ).1) : vN (cWord k τ).2 = vN τ := by rw [(cWord_v h).2, nv_tA]
theorem nv_sign {τ : Kmem} {k : Int} (h : (cSign k τ).1) : vN (cSign k τ).2 = vN τ := by rw [(cSign_v h).2, nv_tA]
theorem nv_up {τ : Kmem} {to y i : Int} (ht : to = 2056 + i) : (∀ j, j ≠ i → vN (kup τ 1 to y) j = vN τ j) ∧ vN (kup τ 1 to y) i = y := by
  subst ht
  unfold vN
  exact ⟨fun j hj => kup_j (by omega), kup_at⟩
theorem nv_new {τ : Kmem} {a b c : Int} (h : (cNew a b c τ).1) : vN (cNew a b c τ).2 = vN τ := by
  rw [(cNew_v h).2, nv_tA]
  unfold vN
  rw [kup_o (x := 1) (by omega), tA_fr.1 1 (by omega)]
theorem nv_old {τ : Kmem} {a b to i : Int} (h : (cOld a b to τ).1) (ht : to = 2056 + i) : (∀ j, j ≠ i → vN (cOld a b to τ).2 j = vN τ j) ∧ vN (cOld a b to τ).2 i = tFi τ a b ∧ tFi τ a b ≠ -1 := by
  rw [(cOld_v h).2, nv_tA]
  exact ⟨(nv_up ht).1, (nv_up ht).2, (cOld_v h).1.2⟩
theorem cThen_y {r : Prop × Kmem} {f : Kmem → Prop × Kmem} (h : (cThen r f).1) : r.1 ∧ (f r.2).1 ∧ cThen r f = f r.2 := by
  by_cases e : r.1
  · rw [cThen_t e] at h; exact ⟨e, h, cThen_t e⟩
  · rw [cThen_f e] at h; exact h.elim
theorem nv_fld {τ : Kmem} {to i : Int} (h : (cFld to τ).1) (ht : to = 2056 + i) (h0 : i ≠ 0 ∧ i ≠ 1) : (∀ j, j ≠ i → j ≠ i + 1 → vN (cFld to τ).2 j = vN τ j) ∧ (0 ≤ vN (cFld to τ).2 i ∧ vN (cFld to τ).2 i < vN τ 0) ∧ 0 ≤ vN (cFld to τ).2 (i + 1) ∧ vN (cFld to τ).2 (i + 1) < vN τ 1 := by
  obtain ⟨a1, b1, e1⟩ := cThen_y h
  obtain ⟨a2, b2, e2⟩ := cThen_y b1
  have E : cFld to τ = cNum (to + 1) 0 ((cNum to 0 ((cWord 8 τ).2 1 2056 - 1) (cWord 8 τ).2).2 1 2057 - 1) (cNum to 0 ((cWord 8 τ).2 1 2056 - 1) (cWord 8 τ).2).2 := e1.trans e2
  have w := nv_word a1
  have n1 := nv_num a2 ht
  have n2 := nv_num (i := i + 1) b2 (by omega)
  rw [w] at n1
  have q0 : (cWord 8 τ).2 1 2056 = vN τ 0 := by rw [← w]; rfl
  have q1 : (cNum to 0 ((cWord 8 τ).2 1 2056 - 1) (cWord 8 τ).2).2 1 2057 = vN τ 1 := by rw [← n1.1 1 (by omega)]; rfl
  rw [E]
  rw [q0] at n1
  rw [q1, q0] at n2
  rw [q1, q0]
  refine ⟨fun j h1 h2 => (n2.1 j h2).trans (n1.1 j h1), ?_, ?_⟩
  · rw [n2.1 i (by omega)]; omega
  · omega
theorem nv_trait {τ : Kmem} {k to i hi : Int} (h : (cTrait k to hi τ).1) (ht : to = 2056 + i) : (∀ j, j ≠ i → vN (cTrait k to hi τ).2 j = vN τ j) ∧ (vN (cTrait k to hi τ).2 i = vN τ i ∨ (0 ≤ vN (cTrait k to hi τ).2 i ∧ vN (cTrait k to hi τ).2 i ≤ hi)) := by
  unfold cTrait at *
  by_cases e : tWi τ = k
  · rw [kif_t e] at h ⊢
    have n := nv_num h ht
    rw [nv_tA] at n
    exact ⟨n.1, Or.inr n.2⟩
  · rw [kif_f e]; exact ⟨fun _ _ => rfl, Or.inl rfl⟩
theorem nv_kit2 {τ : Kmem} {b i : Int} (h : (cKit2 b τ).1) (ht : b = 2056 + i) (hi : 34 ≤ i) : (∀ j, j ≠ i + 2 → j ≠ i + 3 → j ≠ i + 4 → j ≠ i + 7 → j ≠ 2 → vN (cKit2 b τ).2 j = vN τ j) ∧ vN (cKit2 b τ).2 2 = vN τ 2 + 1 ∧ (vN (cKit2 b τ).2 (i + 2) = vN τ (i + 2) ∨ (0 ≤ vN (cKit2 b τ).2 (i + 2) ∧ vN (cKit2 b τ).2 (i + 2) ≤ 2)) ∧ (vN (cKit2 b τ).2 (i + 3) = vN τ (i + 3) ∨ (0 ≤ vN (cKit2 b τ).2 (i + 3) ∧ vN (cKit2 b τ).2 (i + 3) ≤ 9)) ∧ (vN (cKit2 b τ).2 (i + 4) = vN τ (i + 4) ∨ (0 ≤ vN (cKit2 b τ).2 (i + 4) ∧ vN (cKit2 b τ).2 (i + 4) ≤ 3)) ∧ (vN (cKit2 b τ).2 (i + 7) = vN τ (i + 7) ∨ (0 ≤ vN (cKit2 b τ).2 (i + 7) ∧ vN (cKit2 b τ).2 (i + 7) ≤ 7)) := by
  obtain ⟨a1, b1, e1⟩ := cThen_y h
  obtain ⟨a2, b2, e2⟩ := cThen_y b1
  obtain ⟨a3, b3, e3⟩ := cThen_y b2
  obtain ⟨a4, b4, e4⟩ := cThen_y b3
  have E : (cKit2 b τ).2 = kInc (cTrait 12 (b + 7) 7 (cTrait 11 (b + 4) 3 (cTrait 10 (b + 3) 9 (cTrait 9 (b + 2) 2 τ).2).2).2).2 2058 := congrArg Prod.snd (e1.trans (e2.trans (e3.trans e4)))
  clear e1 e2 e3 e4
  rw [E]
  unfold kInc
  have n1 := nv_trait (i := i + 2) a1 (by omega)
  have n2 := nv_trait (i := i + 3) a2 (by omega)
  have n3 := nv_trait (i := i + 4) a3 (by omega)
  have n4 := nv_trait (i := i + 7) a4 (by omega)
  generalize (cTrait 9 (b + 2) 2 τ).2 = u1 at *
  generalize (cTrait 10 (b + 3) 9 u1).2 = u2 at *
  generalize (cTrait 11 (b + 4) 3 u2).2 = u3 at *
  generalize (cTrait 12 (b + 7) 7 u3).2 = u4 at *
  have n5 := nv_up (τ := u4) (y := u4 1 2058 + 1) (i := 2) (show (2058 : Int) = 2056 + 2 by rfl)
  have q : u4 1 2058 = vN u4 2 := rfl
  obtain ⟨p5, v5⟩ := n5
  generalize vN (kup u4 1 2058 (u4 1 2058 + 1)) = w at *
  rw [q] at v5
  refine ⟨fun j c2 c3 c4 c7 d2 => ?_, ?_, ?_, ?_, ?_, ?_⟩
  · rw [p5 j d2, n4.1 j c7, n3.1 j c4, n2.1 j c3, n1.1 j c2]
  · rw [v5, n4.1 2 (by omega), n3.1 2 (by omega), n2.1 2 (by omega), n1.1 2 (by omega)]
  · rw [p5 (i + 2) (by omega), n4.1 (i + 2) (by omega), n3.1 (i + 2) (by omega), n2.1 (i + 2) (by omega)]; exact n1.2
  · rw [p5 (i + 3) (by omega), n4.1 (i + 3) (by omega), n3.1 (i + 3) (by omega), ← n1.1 (i + 3) (by omega)]; exact n2.2
  · rw [p5 (i + 4) (by omega), n4.1 (i + 4) (by omega), ← n1.1 (i + 4) (by omega), ← n2.1 (i + 4) (by omega)]; exact n3.2
  · rw [p5 (i + 7) (by omega), ← n1.1 (i + 7) (by omega), ← n2.1 (i + 7) (by omega), ← n3.1 (i + 7) (by omega)]; exact n4.2
