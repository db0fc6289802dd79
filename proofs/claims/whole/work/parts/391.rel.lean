theorem kco_col {σ : Kmem} {c k x : Int} {v : Int → Int} (w : wf v) (h : kco σ c v) (hk : 0 ≤ k ∧ k < v 2) : kco (kup σ (c + 6 + k) 1 x) c (ku v (34 + 9 * k) x) := by
  have w1 := wf_h w
  obtain ⟨hk1, hk2⟩ := hk
  refine ⟨?_, ?_, ?_, ?_, ?_⟩
  · have := h.1; unfold kcoH at this ⊢; simp (disch := omega) only [kup_x, ku_ne]; exact this
  · intro k' h1 h2; have := h.2.1 k' h1 h2; simp (disch := omega) only [kup_x, ku_ne]; exact this
  · intro k' h1 h2; rw [ku_ne (by omega)] at h2; have := h.2.2.1 k' h1 h2
    by_cases e : k' = k
    · subst e; simp (disch := omega) only [kup_j, kup_at, ku_ne, ku_eq]; simp only [this, and_self]
    · simp (disch := omega) only [kup_x, ku_ne]; exact this
  · intro k' h1 h2; rw [ku_ne (by omega)] at h2; have := h.2.2.2.1 k' h1 h2; simp (disch := omega) only [kup_x, ku_ne]; exact this
  · intro k' h1 h2; rw [ku_ne (by omega)] at h2; have := h.2.2.2.2 k' h1 h2; simp (disch := omega) only [kup_x, ku_ne]; exact this
theorem kco_row {σ : Kmem} {c k x : Int} {v : Int → Int} (w : wf v) (h : kco σ c v) (hk : 0 ≤ k ∧ k < v 2) : kco (kup σ (c + 6 + k) 2 x) c (ku v (34 + 9 * k + 1) x) := by
  have w1 := wf_h w
  obtain ⟨hk1, hk2⟩ := hk
  refine ⟨?_, ?_, ?_, ?_, ?_⟩
  · have := h.1; unfold kcoH at this ⊢; simp (disch := omega) only [kup_x, ku_ne]; exact this
  · intro k' h1 h2; have := h.2.1 k' h1 h2; simp (disch := omega) only [kup_x, ku_ne]; exact this
  · intro k' h1 h2; rw [ku_ne (by omega)] at h2; have := h.2.2.1 k' h1 h2
    by_cases e : k' = k
    · subst e; simp (disch := omega) only [kup_j, kup_at, ku_ne, ku_eq]; simp only [this, and_self]
    · simp (disch := omega) only [kup_x, ku_ne]; exact this
  · intro k' h1 h2; rw [ku_ne (by omega)] at h2; have := h.2.2.2.1 k' h1 h2; simp (disch := omega) only [kup_x, ku_ne]; exact this
  · intro k' h1 h2; rw [ku_ne (by omega)] at h2; have := h.2.2.2.2 k' h1 h2; simp (disch := omega) only [kup_x, ku_ne]; exact this
theorem kco_string {σ : Kmem} {c k x : Int} {v : Int → Int} (w : wf v) (h : kco σ c v) (hk : 0 ≤ k ∧ k < v 2) : kco (kup σ (c + 6 + k) 4 x) c (ku v (34 + 9 * k + 3) x) := by
  have w1 := wf_h w
  obtain ⟨hk1, hk2⟩ := hk
  refine ⟨?_, ?_, ?_, ?_, ?_⟩
  · have := h.1; unfold kcoH at this ⊢; simp (disch := omega) only [kup_x, ku_ne]; exact this
  · intro k' h1 h2; have := h.2.1 k' h1 h2; simp (disch := omega) only [kup_x, ku_ne]; exact this
  · intro k' h1 h2; rw [ku_ne (by omega)] at h2; have := h.2.2.1 k' h1 h2
    by_cases e : k' = k
    · subst e; simp (disch := omega) only [kup_j, kup_at, ku_ne, ku_eq]; simp only [this, and_self]
    · simp (disch := omega) only [kup_x, ku_ne]; exact this
  · intro k' h1 h2; rw [ku_ne (by omega)] at h2; have := h.2.2.2.1 k' h1 h2; simp (disch := omega) only [kup_x, ku_ne]; exact this
  · intro k' h1 h2; rw [ku_ne (by omega)] at h2; have := h.2.2.2.2 k' h1 h2; simp (disch := omega) only [kup_x, ku_ne]; exact this
theorem kco_purse {σ : Kmem} {c k x : Int} {v : Int → Int} (w : wf v) (h : kco σ c v) (hk : 0 ≤ k ∧ k < v 2) : kco (kup σ (c + 6 + k) 7 x) c (ku v (34 + 9 * k + 5) x) := by
  have w1 := wf_h w
  obtain ⟨hk1, hk2⟩ := hk
  refine ⟨?_, ?_, ?_, ?_, ?_⟩
  · have := h.1; unfold kcoH at this ⊢; simp (disch := omega) only [kup_x, ku_ne]; exact this
  · intro k' h1 h2; have := h.2.1 k' h1 h2; simp (disch := omega) only [kup_x, ku_ne]; exact this
  · intro k' h1 h2; rw [ku_ne (by omega)] at h2; have := h.2.2.1 k' h1 h2
    by_cases e : k' = k
    · subst e; simp (disch := omega) only [kup_j, kup_at, ku_ne, ku_eq]; simp only [this, and_self]
    · simp (disch := omega) only [kup_x, ku_ne]; exact this
  · intro k' h1 h2; rw [ku_ne (by omega)] at h2; have := h.2.2.2.1 k' h1 h2; simp (disch := omega) only [kup_x, ku_ne]; exact this
  · intro k' h1 h2; rw [ku_ne (by omega)] at h2; have := h.2.2.2.2 k' h1 h2; simp (disch := omega) only [kup_x, ku_ne]; exact this
theorem kco_walked {σ : Kmem} {c k x : Int} {v : Int → Int} (w : wf v) (h : kco σ c v) (hk : 0 ≤ k ∧ k < v 2) : kco (kup σ (c + 6 + k) 8 x) c (ku v (34 + 9 * k + 6) x) := by
  have w1 := wf_h w
  obtain ⟨hk1, hk2⟩ := hk
  refine ⟨?_, ?_, ?_, ?_, ?_⟩
  · have := h.1; unfold kcoH at this ⊢; simp (disch := omega) only [kup_x, ku_ne]; exact this
  · intro k' h1 h2; have := h.2.1 k' h1 h2; simp (disch := omega) only [kup_x, ku_ne]; exact this
  · intro k' h1 h2; rw [ku_ne (by omega)] at h2; have := h.2.2.1 k' h1 h2
    by_cases e : k' = k
    · subst e; simp (disch := omega) only [kup_j, kup_at, ku_ne, ku_eq]; simp only [this, and_self]
    · simp (disch := omega) only [kup_x, ku_ne]; exact this
  · intro k' h1 h2; rw [ku_ne (by omega)] at h2; have := h.2.2.2.1 k' h1 h2; simp (disch := omega) only [kup_x, ku_ne]; exact this
  · intro k' h1 h2; rw [ku_ne (by omega)] at h2; have := h.2.2.2.2 k' h1 h2; simp (disch := omega) only [kup_x, ku_ne]; exact this
theorem kco_cut {σ : Kmem} {c k x : Int} {v : Int → Int} (w : wf v) (h : kco σ c v) (hk : 0 ≤ k ∧ k < v 2) : kco (kup σ (c + 6 + k) 9 x) c (ku v (34 + 9 * k + 8) x) := by
  have w1 := wf_h w
  obtain ⟨hk1, hk2⟩ := hk
  refine ⟨?_, ?_, ?_, ?_, ?_⟩
  · have := h.1; unfold kcoH at this ⊢; simp (disch := omega) only [kup_x, ku_ne]; exact this
  · intro k' h1 h2; have := h.2.1 k' h1 h2; simp (disch := omega) only [kup_x, ku_ne]; exact this
  · intro k' h1 h2; rw [ku_ne (by omega)] at h2; have := h.2.2.1 k' h1 h2
    by_cases e : k' = k
    · subst e; simp (disch := omega) only [kup_j, kup_at, ku_ne, ku_eq]; simp only [this, and_self]
    · simp (disch := omega) only [kup_x, ku_ne]; exact this
  · intro k' h1 h2; rw [ku_ne (by omega)] at h2; have := h.2.2.2.1 k' h1 h2; simp (disch := omega) only [kup_x, ku_ne]; exact this
  · intro k' h1 h2; rw [ku_ne (by omega)] at h2; have := h.2.2.2.2 k' h1 h2; simp (disch := omega) only [kup_x, ku_ne]; exact this
theorem kco_grown {σ : Kmem} {c k x : Int} {v : Int → Int} (w : wf v) (h : kco σ c v) (hk : 0 ≤ k ∧ k < v 3) : kco (kup σ (c + 12 + k) 4 x) c (ku v (88 + 4 * k + 3) x) := by
  have w1 := wf_h w
  obtain ⟨hk1, hk2⟩ := hk
  refine ⟨?_, ?_, ?_, ?_, ?_⟩
  · have := h.1; unfold kcoH at this ⊢; simp (disch := omega) only [kup_x, ku_ne]; exact this
  · intro k' h1 h2; have := h.2.1 k' h1 h2; simp (disch := omega) only [kup_x, ku_ne]; exact this
  · intro k' h1 h2; rw [ku_ne (by omega)] at h2; have := h.2.2.1 k' h1 h2; simp (disch := omega) only [kup_x, ku_ne]; exact this
  · intro k' h1 h2; rw [ku_ne (by omega)] at h2; have := h.2.2.2.1 k' h1 h2
    by_cases e : k' = k
    · subst e; simp (disch := omega) only [kup_j, kup_at, ku_ne, ku_eq]; simp only [this, and_self]
    · simp (disch := omega) only [kup_x, ku_ne]; exact this
  · intro k' h1 h2; rw [ku_ne (by omega)] at h2; have := h.2.2.2.2 k' h1 h2; simp (disch := omega) only [kup_x, ku_ne]; exact this
theorem kco_tcol {σ : Kmem} {c k x : Int} {v : Int → Int} (w : wf v) (h : kco σ c v) (hk : 0 ≤ k ∧ k < v 4) : kco (kup σ (c + 20 + k) 1 x) c (ku v (120 + 5 * k) x) := by
  have w1 := wf_h w
  obtain ⟨hk1, hk2⟩ := hk
  refine ⟨?_, ?_, ?_, ?_, ?_⟩
  · have := h.1; unfold kcoH at this ⊢; simp (disch := omega) only [kup_x, ku_ne]; exact this
  · intro k' h1 h2; have := h.2.1 k' h1 h2; simp (disch := omega) only [kup_x, ku_ne]; exact this
  · intro k' h1 h2; rw [ku_ne (by omega)] at h2; have := h.2.2.1 k' h1 h2; simp (disch := omega) only [kup_x, ku_ne]; exact this
  · intro k' h1 h2; rw [ku_ne (by omega)] at h2; have := h.2.2.2.1 k' h1 h2; simp (disch := omega) only [kup_x, ku_ne]; exact this
  · intro k' h1 h2; rw [ku_ne (by omega)] at h2; have := h.2.2.2.2 k' h1 h2
    by_cases e : k' = k
    · subst e; simp (disch := omega) only [kup_j, kup_at, ku_ne, ku_eq]; simp only [this, and_self]
    · simp (disch := omega) only [kup_x, ku_ne]; exact this
theorem kco_trow {σ : Kmem} {c k x : Int} {v : Int → Int} (w : wf v) (h : kco σ c v) (hk : 0 ≤ k ∧ k < v 4) : kco (kup σ (c + 20 + k) 2 x) c (ku v (120 + 5 * k + 1) x) := by
  have w1 := wf_h w
  obtain ⟨hk1, hk2⟩ := hk
  refine ⟨?_, ?_, ?_, ?_, ?_⟩
  · have := h.1; unfold kcoH at this ⊢; simp (disch := omega) only [kup_x, ku_ne]; exact this
  · intro k' h1 h2; have := h.2.1 k' h1 h2; simp (disch := omega) only [kup_x, ku_ne]; exact this
  · intro k' h1 h2; rw [ku_ne (by omega)] at h2; have := h.2.2.1 k' h1 h2; simp (disch := omega) only [kup_x, ku_ne]; exact this
  · intro k' h1 h2; rw [ku_ne (by omega)] at h2; have := h.2.2.2.1 k' h1 h2; simp (disch := omega) only [kup_x, ku_ne]; exact this
  · intro k' h1 h2; rw [ku_ne (by omega)] at h2; have := h.2.2.2.2 k' h1 h2
    by_cases e : k' = k
    · subst e; simp (disch := omega) only [kup_j, kup_at, ku_ne, ku_eq]; simp only [this, and_self]
    · simp (disch := omega) only [kup_x, ku_ne]; exact this
theorem kco_lease {σ : Kmem} {c k x : Int} {v : Int → Int} (w : wf v) (h : kco σ c v) (hk : 0 ≤ k ∧ k < v 4) : kco (kup σ (c + 20 + k) 3 x) c (ku v (120 + 5 * k + 2) x) := by
  have w1 := wf_h w
  obtain ⟨hk1, hk2⟩ := hk
  refine ⟨?_, ?_, ?_, ?_, ?_⟩
  · have := h.1; unfold kcoH at this ⊢; simp (disch := omega) only [kup_x, ku_ne]; exact this
  · intro k' h1 h2; have := h.2.1 k' h1 h2; simp (disch := omega) only [kup_x, ku_ne]; exact this
  · intro k' h1 h2; rw [ku_ne (by omega)] at h2; have := h.2.2.1 k' h1 h2; simp (disch := omega) only [kup_x, ku_ne]; exact this
  · intro k' h1 h2; rw [ku_ne (by omega)] at h2; have := h.2.2.2.1 k' h1 h2; simp (disch := omega) only [kup_x, ku_ne]; exact this
  · intro k' h1 h2; rw [ku_ne (by omega)] at h2; have := h.2.2.2.2 k' h1 h2
    by_cases e : k' = k
    · subst e; simp (disch := omega) only [kup_j, kup_at, ku_ne, ku_eq]; simp only [this, and_self]
    · simp (disch := omega) only [kup_x, ku_ne]; exact this
theorem kco_tilled {σ : Kmem} {c k x : Int} {v : Int → Int} (w : wf v) (h : kco σ c v) (hk : 0 ≤ k ∧ k < v 4) : kco (kup σ (c + 20 + k) 4 x) c (ku v (120 + 5 * k + 3) x) := by
  have w1 := wf_h w
  obtain ⟨hk1, hk2⟩ := hk
  refine ⟨?_, ?_, ?_, ?_, ?_⟩
  · have := h.1; unfold kcoH at this ⊢; simp (disch := omega) only [kup_x, ku_ne]; exact this
  · intro k' h1 h2; have := h.2.1 k' h1 h2; simp (disch := omega) only [kup_x, ku_ne]; exact this
  · intro k' h1 h2; rw [ku_ne (by omega)] at h2; have := h.2.2.1 k' h1 h2; simp (disch := omega) only [kup_x, ku_ne]; exact this
  · intro k' h1 h2; rw [ku_ne (by omega)] at h2; have := h.2.2.2.1 k' h1 h2; simp (disch := omega) only [kup_x, ku_ne]; exact this
  · intro k' h1 h2; rw [ku_ne (by omega)] at h2; have := h.2.2.2.2 k' h1 h2
    by_cases e : k' = k
    · subst e; simp (disch := omega) only [kup_j, kup_at, ku_ne, ku_eq]; simp only [this, and_self]
    · simp (disch := omega) only [kup_x, ku_ne]; exact this
theorem kco_idle {σ : Kmem} {c k x : Int} {v : Int → Int} (w : wf v) (h : kco σ c v) (hk : 0 ≤ k ∧ k < v 4) : kco (kup σ (c + 20 + k) 5 x) c (ku v (120 + 5 * k + 4) x) := by
  have w1 := wf_h w
  obtain ⟨hk1, hk2⟩ := hk
  refine ⟨?_, ?_, ?_, ?_, ?_⟩
  · have := h.1; unfold kcoH at this ⊢; simp (disch := omega) only [kup_x, ku_ne]; exact this
  · intro k' h1 h2; have := h.2.1 k' h1 h2; simp (disch := omega) only [kup_x, ku_ne]; exact this
  · intro k' h1 h2; rw [ku_ne (by omega)] at h2; have := h.2.2.1 k' h1 h2; simp (disch := omega) only [kup_x, ku_ne]; exact this
  · intro k' h1 h2; rw [ku_ne (by omega)] at h2; have := h.2.2.2.1 k' h1 h2; simp (disch := omega) only [kup_x, ku_ne]; exact this
  · intro k' h1 h2; rw [ku_ne (by omega)] at h2; have := h.2.2.2.2 k' h1 h2
    by_cases e : k' = k
    · subst e; simp (disch := omega) only [kup_j, kup_at, ku_ne, ku_eq]; simp only [this, and_self]
    · simp (disch := omega) only [kup_x, ku_ne]; exact this
theorem kco_hour {σ : Kmem} {c x : Int} {v : Int → Int} (w : wf v) (h : kco σ c v) : kco (kup σ c 4 x) c (ku v 7 x) := by
  have w1 := wf_h w
  refine ⟨?_, ?_, ?_, ?_, ?_⟩
  · have := h.1; unfold kcoH at this ⊢; simp (disch := omega) only [kup_j, kup_at, ku_ne, ku_eq]; simp only [this, and_self]
  · intro k' h1 h2; have := h.2.1 k' h1 h2; simp (disch := omega) only [kup_x, ku_ne]; exact this
  · intro k' h1 h2; rw [ku_ne (by omega)] at h2; have := h.2.2.1 k' h1 h2; simp (disch := omega) only [kup_x, ku_ne]; exact this
  · intro k' h1 h2; rw [ku_ne (by omega)] at h2; have := h.2.2.2.1 k' h1 h2; simp (disch := omega) only [kup_x, ku_ne]; exact this
  · intro k' h1 h2; rw [ku_ne (by omega)] at h2; have := h.2.2.2.2 k' h1 h2; simp (disch := omega) only [kup_x, ku_ne]; exact this
theorem kco_law {σ : Kmem} {c x : Int} {v : Int → Int} (w : wf v) (h : kco σ c v) : kco (kup σ c 3 x) c (ku v 6 x) := by
  have w1 := wf_h w
  refine ⟨?_, ?_, ?_, ?_, ?_⟩
  · have := h.1; unfold kcoH at this ⊢; simp (disch := omega) only [kup_j, kup_at, ku_ne, ku_eq]; simp only [this, and_self]
  · intro k' h1 h2; have := h.2.1 k' h1 h2; simp (disch := omega) only [kup_x, ku_ne]; exact this
  · intro k' h1 h2; rw [ku_ne (by omega)] at h2; have := h.2.2.1 k' h1 h2; simp (disch := omega) only [kup_x, ku_ne]; exact this
  · intro k' h1 h2; rw [ku_ne (by omega)] at h2; have := h.2.2.2.1 k' h1 h2; simp (disch := omega) only [kup_x, ku_ne]; exact this
  · intro k' h1 h2; rw [ku_ne (by omega)] at h2; have := h.2.2.2.2 k' h1 h2; simp (disch := omega) only [kup_x, ku_ne]; exact this
