/-- a memory with cell x made v -/
def kst (σ : Kmem) (x : Int) (v : Int → Int) : Kmem := fun b k => if b = x then v k else σ b k
def ku (v : Int → Int) (i x : Int) : Int → Int := fun j => if j = i then x else v j
theorem ku_eq {v : Int → Int} {i x : Int} : ku v i x i = x := if_pos rfl
theorem ku_ne {v : Int → Int} {i x j : Int} (h : j ≠ i) : ku v i x j = v j := if_neg h
theorem kst_eq {σ : Kmem} {x : Int} {v : Int → Int} : kst σ x v x = v := by funext k; exact if_pos rfl
theorem kst_ne {σ : Kmem} {x y : Int} {v : Int → Int} (h : y ≠ x) : kst σ x v y = σ y := by funext k; exact if_neg h
theorem kst_id {σ : Kmem} {x : Int} : kst σ x (σ x) = σ := by
  funext b k; unfold kst; split
  · rename_i h; rw [h]
  · rfl
theorem kst_kst {σ : Kmem} {x : Int} {v w : Int → Int} : kst (kst σ x v) x w = kst σ x w := by
  funext b k; unfold kst; split <;> rfl
theorem kup_st {σ : Kmem} {x i y : Int} {v : Int → Int} : kup (kst σ x v) x i y = kst σ x (ku v i y) := by
  funext b k; unfold kup kst ku
  by_cases h : b = x
  · subst h
    by_cases q : k = i
    · rw [if_pos ⟨rfl, q⟩, if_pos rfl, if_pos q]
    · rw [if_neg (fun z => q z.2), if_pos rfl, if_pos rfl, if_neg q]
  · rw [if_neg (fun z => h z.1), if_neg h, if_neg h]
theorem kup_k {σ : Kmem} {x i y : Int} : kup σ x i y = kst σ x (ku (σ x) i y) := by
  rw [← kup_st, kst_id]
/-- the first words of a county are the same -/
def kfr (u v : Int → Int) : Prop := ∀ j, 0 ≤ j → j < 34 → u j = v j
theorem kfr.trans {u v w : Int → Int} (h : kfr u v) (g : kfr v w) : kfr u w := fun j a b => (h j a b).trans (g j a b)
theorem kfr.refl {u : Int → Int} : kfr u u := fun _ _ _ => rfl
theorem kfr_ku {v : Int → Int} {i x : Int} (h : 34 ≤ i) : kfr (ku v i x) v := fun j a b => ku_ne (by omega)
theorem wf_K {v : Int → Int} {k j x : Int} (w : wf v) (hk : sKt v k) (hj : 0 ≤ j ∧ j < 9) (hx : wfK (ku v (34 + 9 * k + j) x)) : wf (ku v (34 + 9 * k + j) x) := by
  obtain ⟨hk1, hk2⟩ := hk
  have w1 := wf_h w
  refine ⟨?_, ?_, hx, ?_, ?_⟩
  · unfold wfH; simp (disch := omega) only [ku_ne]; exact w.1
  · intro h h1 h2; have := w.2.1 h h1 h2; simp (disch := omega) only [ku_ne]; exact this
  · intro c h1 h2; simp (disch := omega) only [ku_ne] at h2; have := w.2.2.2.1 c h1 h2; simp (disch := omega) only [ku_ne]; exact this
  · intro c h1 h2; simp (disch := omega) only [ku_ne] at h2; have := w.2.2.2.2 c h1 h2; simp (disch := omega) only [ku_ne]; exact this
theorem wf_purse {v : Int → Int} {k x : Int} (w : wf v) (hk : sKt v k) (hx : 0 ≤ x ∧ x ≤ 9999) : wf (ku v (34 + 9 * k + 5) x) := by
  refine wf_K w hk (by omega) ?_
  obtain ⟨hk1, hk2⟩ := hk
  intro k' h1 h2
  rw [ku_ne (by omega)] at h2
  have := w.2.2.1 k' h1 h2
  by_cases e : k' = k
  · subst e; simp (disch := omega) only [ku_ne, ku_eq]; omega
  · simp (disch := omega) only [ku_ne]; exact this
theorem wf_walked {v : Int → Int} {k x : Int} (w : wf v) (hk : sKt v k) : wf (ku v (34 + 9 * k + 6) x) := by
  refine wf_K w hk (by omega) ?_
  obtain ⟨hk1, hk2⟩ := hk
  intro k' h1 h2
  rw [ku_ne (by omega)] at h2
  have := w.2.2.1 k' h1 h2
  simp (disch := omega) only [ku_ne]; exact this
theorem wf_cut {v : Int → Int} {k x : Int} (w : wf v) (hk : sKt v k) (hx : x = 0 ∨ x = 1) : wf (ku v (34 + 9 * k + 8) x) := by
  refine wf_K w hk (by omega) ?_
  obtain ⟨hk1, hk2⟩ := hk
  intro k' h1 h2
  rw [ku_ne (by omega)] at h2
  have := w.2.2.1 k' h1 h2
  by_cases e : k' = k
  · subst e; simp (disch := omega) only [ku_ne, ku_eq]; omega
  · simp (disch := omega) only [ku_ne]; exact this
theorem wf_string {v : Int → Int} {k x : Int} (w : wf v) (hk : sKt v k) (hx : 0 ≤ x ∧ x ≤ 9) : wf (ku v (34 + 9 * k + 3) x) := by
  refine wf_K w hk (by omega) ?_
  obtain ⟨hk1, hk2⟩ := hk
  intro k' h1 h2
  rw [ku_ne (by omega)] at h2
  have := w.2.2.1 k' h1 h2
  by_cases e : k' = k
  · subst e; simp (disch := omega) only [ku_ne, ku_eq]; omega
  · simp (disch := omega) only [ku_ne]; exact this
theorem wf_row {v : Int → Int} {k x : Int} (w : wf v) (hk : sKt v k) (hx : 0 ≤ x ∧ x < v 1) : wf (ku v (34 + 9 * k + 1) x) := by
  refine wf_K w hk (by omega) ?_
  obtain ⟨hk1, hk2⟩ := hk
  intro k' h1 h2
  rw [ku_ne (by omega)] at h2
  have := w.2.2.1 k' h1 h2
  by_cases e : k' = k
  · subst e; simp (disch := omega) only [ku_ne, ku_eq]; omega
  · simp (disch := omega) only [ku_ne]; exact this
theorem wf_col {v : Int → Int} {k x : Int} (w : wf v) (hk : sKt v k) (hx : 0 ≤ x ∧ x < v 0) : wf (ku v (34 + 9 * k) x) := by
  have := wf_K (v := v) (k := k) (j := 0) (x := x) w hk (by omega)
  rw [Int.add_zero] at this
  refine this ?_
  obtain ⟨hk1, hk2⟩ := hk
  intro k' h1 h2
  rw [ku_ne (by omega)] at h2
  have := w.2.2.1 k' h1 h2
  by_cases e : k' = k
  · subst e; simp (disch := omega) only [ku_ne, ku_eq]; omega
  · simp (disch := omega) only [ku_ne]; exact this
theorem wf_grown {v : Int → Int} {k x : Int} (w : wf v) (hk : 0 ≤ k ∧ k < v 3) (hx : 0 ≤ x ∧ x ≤ 99) : wf (ku v (88 + 4 * k + 3) x) := by
  obtain ⟨hk1, hk2⟩ := hk
  have w1 := wf_h w
  refine ⟨?_, ?_, ?_, ?_, ?_⟩
  · unfold wfH; simp (disch := omega) only [ku_ne]; exact w.1
  · intro h h1 h2; have := w.2.1 h h1 h2; simp (disch := omega) only [ku_ne]; exact this
  · intro c h1 h2; simp (disch := omega) only [ku_ne] at h2; have := w.2.2.1 c h1 h2; simp (disch := omega) only [ku_ne]; exact this
  · intro c h1 h2; simp (disch := omega) only [ku_ne] at h2; have := w.2.2.2.1 c h1 h2
    by_cases e : c = k
    · subst e; simp (disch := omega) only [ku_ne, ku_eq]; omega
    · simp (disch := omega) only [ku_ne]; exact this
  · intro c h1 h2; simp (disch := omega) only [ku_ne] at h2; have := w.2.2.2.2 c h1 h2; simp (disch := omega) only [ku_ne]; exact this
theorem wf_T {v : Int → Int} {k j x : Int} (w : wf v) (hk : 0 ≤ k ∧ k < v 4) (hj : 0 ≤ j ∧ j < 5) (hx : wfT (ku v (120 + 5 * k + j) x)) : wf (ku v (120 + 5 * k + j) x) := by
  obtain ⟨hk1, hk2⟩ := hk
  have w1 := wf_h w
  refine ⟨?_, ?_, ?_, ?_, hx⟩
  · unfold wfH; simp (disch := omega) only [ku_ne]; exact w.1
  · intro h h1 h2; have := w.2.1 h h1 h2; simp (disch := omega) only [ku_ne]; exact this
  · intro c h1 h2; simp (disch := omega) only [ku_ne] at h2; have := w.2.2.1 c h1 h2; simp (disch := omega) only [ku_ne]; exact this
  · intro c h1 h2; simp (disch := omega) only [ku_ne] at h2; have := w.2.2.2.1 c h1 h2; simp (disch := omega) only [ku_ne]; exact this
theorem wf_tilled {v : Int → Int} {k j x : Int} (w : wf v) (hk : 0 ≤ k ∧ k < v 4) (hj : 3 ≤ j ∧ j < 5) : wf (ku v (120 + 5 * k + j) x) := by
  refine wf_T w hk (by omega) ?_
  obtain ⟨hk1, hk2⟩ := hk
  have w1 := wf_h w
  intro k' h1 h2
  rw [ku_ne (by omega)] at h2
  have := w.2.2.2.2 k' h1 h2
  simp (disch := omega) only [ku_ne]; exact this
theorem wf_tcol {v : Int → Int} {k x : Int} (w : wf v) (hk : 0 ≤ k ∧ k < v 4) (hx : 0 ≤ x ∧ x < v 0) : wf (ku v (120 + 5 * k) x) := by
  have := wf_T (v := v) (k := k) (j := 0) (x := x) w hk (by omega)
  rw [Int.add_zero] at this
  refine this ?_
  obtain ⟨hk1, hk2⟩ := hk
  have w1 := wf_h w
  intro k' h1 h2
  rw [ku_ne (by omega)] at h2
  have := w.2.2.2.2 k' h1 h2
  by_cases e : k' = k
  · subst e; simp (disch := omega) only [ku_ne, ku_eq]; omega
  · simp (disch := omega) only [ku_ne]; exact this
theorem wf_trow {v : Int → Int} {k x : Int} (w : wf v) (hk : 0 ≤ k ∧ k < v 4) (hx : 0 ≤ x ∧ x < v 1) : wf (ku v (120 + 5 * k + 1) x) := by
  refine wf_T w hk (by omega) ?_
  obtain ⟨hk1, hk2⟩ := hk
  have w1 := wf_h w
  intro k' h1 h2
  rw [ku_ne (by omega)] at h2
  have := w.2.2.2.2 k' h1 h2
  by_cases e : k' = k
  · subst e; simp (disch := omega) only [ku_ne, ku_eq]; omega
  · simp (disch := omega) only [ku_ne]; exact this
theorem wf_its {v : Int → Int} {k x : Int} (w : wf v) (hk : 0 ≤ k ∧ k < v 4) (hx : sKt v x) : wf (ku v (120 + 5 * k + 2) x) := by
  refine wf_T w hk (by omega) ?_
  obtain ⟨hk1, hk2⟩ := hk
  obtain ⟨hx1, hx2⟩ := hx
  have w1 := wf_h w
  intro k' h1 h2
  rw [ku_ne (by omega)] at h2
  have := w.2.2.2.2 k' h1 h2
  by_cases e : k' = k
  · subst e; simp (disch := omega) only [ku_ne, ku_eq]; omega
  · simp (disch := omega) only [ku_ne]; exact this
theorem wf_now {v : Int → Int} {x : Int} (w : wf v) (hx : 0 ≤ x ∧ x ≤ 100000) : wf (ku v 7 x) := by
  have w1 := wf_h w
  refine ⟨?_, ?_, ?_, ?_, ?_⟩
  · unfold wfH; simp (disch := omega) only [ku_ne, ku_eq]; omega
  · intro h h1 h2; have := w.2.1 h h1 h2; simp (disch := omega) only [ku_ne]; exact this
  · intro c h1 h2; simp (disch := omega) only [ku_ne] at h2; have := w.2.2.1 c h1 h2; simp (disch := omega) only [ku_ne]; exact this
  · intro c h1 h2; simp (disch := omega) only [ku_ne] at h2; have := w.2.2.2.1 c h1 h2; simp (disch := omega) only [ku_ne]; exact this
  · intro c h1 h2; simp (disch := omega) only [ku_ne] at h2; have := w.2.2.2.2 c h1 h2; simp (disch := omega) only [ku_ne]; exact this
theorem wf_law {v : Int → Int} {x : Int} (w : wf v) (hx : 0 ≤ x ∧ x ≤ 2) : wf (ku v 6 x) := by
  have w1 := wf_h w
  refine ⟨?_, ?_, ?_, ?_, ?_⟩
  · unfold wfH; simp (disch := omega) only [ku_ne, ku_eq]; omega
  · intro h h1 h2; have := w.2.1 h h1 h2; simp (disch := omega) only [ku_ne]; exact this
  · intro c h1 h2; simp (disch := omega) only [ku_ne] at h2; have := w.2.2.1 c h1 h2; simp (disch := omega) only [ku_ne]; exact this
  · intro c h1 h2; simp (disch := omega) only [ku_ne] at h2; have := w.2.2.2.1 c h1 h2; simp (disch := omega) only [ku_ne]; exact this
  · intro c h1 h2; simp (disch := omega) only [ku_ne] at h2; have := w.2.2.2.2 c h1 h2; simp (disch := omega) only [ku_ne]; exact this
theorem wf_ext {u v : Int → Int} (h : ∀ j, 0 ≤ j → j < 150 → u j = v j) (w : wf v) : wf u := by
  have w1 := wf_h w
  have e0 := h 0 (by omega) (by omega)
  have e1 := h 1 (by omega) (by omega)
  have e2 := h 2 (by omega) (by omega)
  have e3 := h 3 (by omega) (by omega)
  have e4 := h 4 (by omega) (by omega)
  have e5 := h 5 (by omega) (by omega)
  have e6 := h 6 (by omega) (by omega)
  have e7 := h 7 (by omega) (by omega)
  refine ⟨?_, ?_, ?_, ?_, ?_⟩
  · unfold wfH; rw [e0, e1, e2, e3, e4, e5, e6, e7]; exact w.1
  · intro a h1 h2; have := w.2.1 a h1 h2; rw [h _ (by omega) (by omega), h _ (by omega) (by omega)]; exact this
  · intro a h1 h2; rw [e2] at h2; have := w.2.2.1 a h1 h2; rw [e0, e1]; simp (disch := omega) only [h]; exact this
  · intro a h1 h2; rw [e3] at h2; have := w.2.2.2.1 a h1 h2; rw [e0, e1]; simp (disch := omega) only [h]; exact this
  · intro a h1 h2; rw [e4] at h2; have := w.2.2.2.2 a h1 h2; rw [e0, e1, e2]; simp (disch := omega) only [h]; exact this
