/-! CountyReader: noon, law, wind, land -/
theorem kco_noon {σ : Kmem} {c x : Int} {v : Int → Int} (w : wf v) (h : kco σ c v) : kco (kup σ c 2 x) c (ku v 5 x) := by
  have w1 := wf_h w
  refine ⟨?_, ?_, ?_, ?_, ?_⟩
  · have := h.1; unfold kcoH at this ⊢; simp (disch := omega) only [kup_j, kup_at, ku_ne, ku_eq]; simp only [this, and_self]
  · intro k' h1 h2; have := h.2.1 k' h1 h2; simp (disch := omega) only [kup_x, ku_ne]; exact this
  · intro k' h1 h2; rw [ku_ne (by omega)] at h2; have := h.2.2.1 k' h1 h2; simp (disch := omega) only [kup_x, ku_ne]; exact this
  · intro k' h1 h2; rw [ku_ne (by omega)] at h2; have := h.2.2.2.1 k' h1 h2; simp (disch := omega) only [kup_x, ku_ne]; exact this
  · intro k' h1 h2; rw [ku_ne (by omega)] at h2; have := h.2.2.2.2 k' h1 h2; simp (disch := omega) only [kup_x, ku_ne]; exact this
theorem kco_wide {σ : Kmem} {c x : Int} {v : Int → Int} (w : wf v) (h : kco σ c v) : kco (kup σ c 0 x) c (ku v 0 x) := by
  have w1 := wf_h w
  refine ⟨?_, ?_, ?_, ?_, ?_⟩
  · have := h.1; unfold kcoH at this ⊢; simp (disch := omega) only [kup_j, kup_at, ku_ne, ku_eq]; simp only [this, and_self]
  · intro k' h1 h2; have := h.2.1 k' h1 h2; simp (disch := omega) only [kup_x, ku_ne]; exact this
  · intro k' h1 h2; rw [ku_ne (by omega)] at h2; have := h.2.2.1 k' h1 h2; simp (disch := omega) only [kup_x, ku_ne]; exact this
  · intro k' h1 h2; rw [ku_ne (by omega)] at h2; have := h.2.2.2.1 k' h1 h2; simp (disch := omega) only [kup_x, ku_ne]; exact this
  · intro k' h1 h2; rw [ku_ne (by omega)] at h2; have := h.2.2.2.2 k' h1 h2; simp (disch := omega) only [kup_x, ku_ne]; exact this
theorem kco_deep {σ : Kmem} {c x : Int} {v : Int → Int} (w2 : v 2 ≤ 6 ∧ v 3 ≤ 8 ∧ v 4 ≤ 6) (h : kco σ c v) : kco (kup σ c 1 x) c (ku v 1 x) := by
  refine ⟨?_, ?_, ?_, ?_, ?_⟩
  · have := h.1; unfold kcoH at this ⊢; simp (disch := omega) only [kup_j, kup_at, ku_ne, ku_eq]; simp only [this, and_self]
  · intro k' h1 h2; have := h.2.1 k' h1 h2; simp (disch := omega) only [kup_x, ku_ne]; exact this
  · intro k' h1 h2; rw [ku_ne (by omega)] at h2; have := h.2.2.1 k' h1 h2; simp (disch := omega) only [kup_x, ku_ne]; exact this
  · intro k' h1 h2; rw [ku_ne (by omega)] at h2; have := h.2.2.2.1 k' h1 h2; simp (disch := omega) only [kup_x, ku_ne]; exact this
  · intro k' h1 h2; rw [ku_ne (by omega)] at h2; have := h.2.2.2.2 k' h1 h2; simp (disch := omega) only [kup_x, ku_ne]; exact this
theorem kco_dir {σ : Kmem} {c x t : Int} {v : Int → Int} (w : wf v) (h : kco σ c v) (ht : 0 ≤ t ∧ t < 12) : kco (kup σ (c + 1) t x) c (ku v (10 + 2 * t) x) := by
  have w1 := wf_h w
  refine ⟨?_, ?_, ?_, ?_, ?_⟩
  · have := h.1; unfold kcoH at this ⊢; simp (disch := omega) only [kup_x, ku_ne]; exact this
  · intro k' h1 h2; have := h.2.1 k' h1 h2
    by_cases e : k' = t
    · subst e; simp (disch := omega) only [kup_x, kup_at, ku_ne, ku_eq]; simp only [this, and_self]
    · simp (disch := omega) only [kup_x, kup_j, ku_ne]; exact this
  · intro k' h1 h2; rw [ku_ne (by omega)] at h2; have := h.2.2.1 k' h1 h2; simp (disch := omega) only [kup_x, ku_ne]; exact this
  · intro k' h1 h2; rw [ku_ne (by omega)] at h2; have := h.2.2.2.1 k' h1 h2; simp (disch := omega) only [kup_x, ku_ne]; exact this
  · intro k' h1 h2; rw [ku_ne (by omega)] at h2; have := h.2.2.2.2 k' h1 h2; simp (disch := omega) only [kup_x, ku_ne]; exact this
theorem kco_force {σ : Kmem} {c x t : Int} {v : Int → Int} (w2 : v 2 ≤ 6 ∧ v 3 ≤ 8 ∧ v 4 ≤ 6) (h : kco σ c v) (ht : 0 ≤ t ∧ t < 12) : kco (kup σ (c + 2) t x) c (ku v (10 + 2 * t + 1) x) := by
  refine ⟨?_, ?_, ?_, ?_, ?_⟩
  · have := h.1; unfold kcoH at this ⊢; simp (disch := omega) only [kup_x, ku_ne]; exact this
  · intro k' h1 h2; have := h.2.1 k' h1 h2
    by_cases e : k' = t
    · subst e; simp (disch := omega) only [kup_x, kup_at, ku_ne, ku_eq]; simp only [this, and_self]
    · simp (disch := omega) only [kup_x, kup_j, ku_ne]; exact this
  · intro k' h1 h2; rw [ku_ne (by omega)] at h2; have := h.2.2.1 k' h1 h2; simp (disch := omega) only [kup_x, ku_ne]; exact this
  · intro k' h1 h2; rw [ku_ne (by omega)] at h2; have := h.2.2.2.1 k' h1 h2; simp (disch := omega) only [kup_x, ku_ne]; exact this
  · intro k' h1 h2; rw [ku_ne (by omega)] at h2; have := h.2.2.2.2 k' h1 h2; simp (disch := omega) only [kup_x, ku_ne]; exact this
theorem wf_noon {v : Int → Int} {x : Int} (w : wf v) (hx : 0 ≤ x ∧ x ≤ 11) : wf (ku v 5 x) := by
  have w1 := wf_h w
  obtain ⟨a, b, c, d, e⟩ := w
  refine ⟨?_, fun k h1 h2 => ?_, fun k h1 h2 => ?_, fun k h1 h2 => ?_, fun k h1 h2 => ?_⟩
  · unfold wfH at *; simp (disch := omega) only [ku_ne, ku_eq]; omega
  · simp (disch := omega) only [ku_ne]; exact b k h1 h2
  · rw [ku_ne (by omega)] at h2; simp (disch := omega) only [ku_ne]; exact c k h1 h2
  · rw [ku_ne (by omega)] at h2; simp (disch := omega) only [ku_ne]; exact d k h1 h2
  · rw [ku_ne (by omega)] at h2; simp (disch := omega) only [ku_ne]; exact e k h1 h2
/-- the county that is read, on both sides -/
def tY (σ : Kmem) (v g : Int → Int) (T : Int) : Prop := kco σ 31 v ∧ nmY σ v g ∧ σ 57 2 = T / 4 % 2 ∧ σ 57 3 = T / 8 % 2
abbrev aR (x : Int) : Prop := x = 3 ∨ (31 ≤ x ∧ x < 58)
theorem nmY_to {s σ : Kmem} {v v' g g' : Int → Int} (h : nmY σ v g) (c : v 2 ≤ 6 ∧ v 3 ≤ 8 ∧ v 4 ≤ 6) (e : ∀ x, 37 ≤ x → x < 57 → s x 0 = σ x 0) (e2 : v' 2 = v 2 ∧ v' 3 = v 3 ∧ v' 4 = v 4) (eg : ∀ j, 80 ≤ j → j < 100 → g' j = g j) : nmY s v' g' := by
  obtain ⟨h1, h2, h3⟩ := h
  refine ⟨fun k a b => ?_, fun k a b => ?_, fun k a b => ?_⟩
  · rw [e2.1] at b; rw [e _ (by omega) (by omega), eg _ (by omega) (by omega)]; exact h1 k a b
  · rw [e2.2.1] at b; rw [e _ (by omega) (by omega), eg _ (by omega) (by omega)]; exact h2 k a b
  · rw [e2.2.2] at b; rw [e _ (by omega) (by omega), eg _ (by omega) (by omega)]; exact h3 k a b
/-- all that a piece owes -/
def xOk (r : Prop × Kmem) (σ : Kmem) (y : Int) (s : Kmem) : Prop := y = kb r.1 ∧ tRs s r.2 ∧ (r.1 → tY s (vN r.2) (r.2 2) (r.2 0 20)) ∧ kfm aR s σ
theorem tk1_20' (τ : Kmem) (y : Int) : (∀ j, j ≠ 20 → (kup τ 0 20 y) 0 j = τ 0 j) ∧ (kup τ 0 20 y) 7 = τ 7 ∧ bA (kup τ 0 20 y) = bA τ := by
  have v : ∀ j, j ≠ 20 → (kup τ 0 20 y) 0 j = τ 0 j := fun j hj => kup_j hj
  have o : (kup τ 0 20 y) 7 = τ 7 := kup_o (by omega)
  exact ⟨v, o, by funext i; unfold bA; rw [v 11 (by omega), o]⟩
theorem tRs_20 {σ τ : Kmem} {y : Int} (h : tRs σ τ) : tRs σ (kup τ 0 20 y) := by
  have v := (tk1_20' τ y)
  unfold tRs tRt at *
  rw [v.1 11 (by omega), v.1 12 (by omega), v.1 13 (by omega), v.1 14 (by omega), v.1 15 (by omega), v.1 17 (by omega), v.1 18 (by omega), v.2.1, v.2.2]
  exact h
theorem cap_20 {τ : Kmem} {y : Int} : (tA (kup τ 0 20 y)) 0 20 = y := by rw [tA_fr.2 20 (by omega), kup_at]
theorem P_X1_readNoon {G : Kg} {σ τ : Kmem} (h : tRs σ τ) (hy : tY σ (vN τ) (τ 2) (τ 0 20)) (t : tk1 τ) (w : wf (vN τ)) (hT : 0 ≤ τ 0 20 ∧ τ 0 20 < 16) : Run G WX M_X1_readNoon 3 0 0 [vA G 57] σ (fun y s => (τ 0 20 / 4 % 2 = 1 → xOk (False, tF τ 5) σ y s) ∧ (τ 0 20 / 4 % 2 ≠ 1 → xOk (cBody 2 (kup τ 0 20 (τ 0 20 + 4))) σ y s)) := by
  obtain ⟨k, nm, f2, f3⟩ := hy
  have w1 := wf_h w
  refine S_X1_readNoon ⟨by rw [f2]; constructor <;> omega, fun q => ?_, fun q => ⟨tRs_r2 h t.1, fun _ => ⟨(kb_0 (fun z => z)).symm, tRs_F h t, fun z => z.elim, fun x hx => xF_B.1 x (fun e => hx (Or.inl e))⟩, fun z => by omega⟩⟩
  have t2 : tk1 (kup τ 0 20 (τ 0 20 + 4)) := (tk1_20 t).1
  have B : cBody 2 (kup τ 0 20 (τ 0 20 + 4)) = cNum 2061 0 11 (tA (kup τ 0 20 (τ 0 20 + 4))) := rfl
  rw [B]
  have nvu : vN (tA (kup τ 0 20 (τ 0 20 + 4))) = vN τ := by rw [nv_tA, nv_20]
  have u2 : (tA (kup τ 0 20 (τ 0 20 + 4))) 2 = τ 2 := by rw [tA_fr.1 2 (by omega), kup_o (by omega)]
  have u20 := cap_20 (τ := τ) (y := τ 0 20 + 4)
  refine Run.mono (P_X6_next' (τ := kup τ 0 20 (τ 0 20 + 4)) (tRs_57 (tRs_20 h) (by omega)) t2.1) (fun r s e => ?_)
  obtain ⟨-, e2, e3⟩ := e
  have t3 := tA_k1 (tok_x0 t2.1) t2.2
  generalize tA (kup τ 0 20 (τ 0 20 + 4)) = u at *
  refine Run.mono (P_X6_takeNumber 2061 e2 t3 ⟨by decide, by decide⟩) (fun r4 s5 e => ?_)
  obtain ⟨e4, e5, e6, e7⟩ := e
  have fr : ∀ x, x ≠ 3 → x ≠ 57 → s5 x = σ x := fun x a b => by rw [e6.1 x a, e3.1 x a, kup_o b]
  refine ⟨r01 e4, fun z => ⟨fun z => by omega, fun _ => ?_⟩, fun z => ⟨fun z => by omega, fun _ => ?_⟩⟩
  · have y := yes e4 z
    have n := nv_num (i := 5) y (by omega)
    have G1 := cNum_G (to := 2061) (lo := 0) (hi := 11) t3 (by omega)
    rw [nvu] at n
    refine ⟨(kb_1 y).symm, tRs_57 e5 (by omega), fun _ => ⟨?_, nmY_to nm (by omega) (fun x a b => by rw [kup_o (by omega), fr x (by omega) (by omega)]) ⟨n.1 2 (by omega), n.1 3 (by omega), n.1 4 (by omega)⟩ (fun j a b => ?_), ?_, ?_⟩, fun x hx => by rw [kup_o (by omega), fr x (by omega) (by omega)]⟩
    · refine kco_ext (wf_noon w n.2) (v := ku (vN τ) 5 (vN (cNum 2061 0 11 u).2 5)) (fun j a b => ?_) ?_
      · by_cases q : j = 5
        · rw [q, ku_eq]
        · rw [ku_ne q]; exact n.1 j q
      · have : s5 3 7 = vN (cNum 2061 0 11 u).2 5 := e7 y ▸ (cNum_at y).symm
        rw [this]
        exact kco_noon w (kco_kfm (A := j57) w k (fun x hx => fr x (fun e => hx (Or.inl e)) (fun e => hx (Or.inr e))) (fun x a b => by omega))
    · rw [(cNum_t y).2, tA_fr.1 2 (by omega), kup_o (by omega), u2]
    · rw [kup_o (x := 57) (by omega), e6.1 57 (by omega), e3.1 57 (by omega), kup_at, G1.1.2.1 20 (by omega), u20]; omega
    · rw [kup_o (x := 57) (by omega), e6.1 57 (by omega), e3.1 57 (by omega), kup_j (by omega), G1.1.2.1 20 (by omega), u20, f3]; omega
  · have y := no e4 z
    exact ⟨(kb_0 y).symm, e5, fun z => absurd z y, fun x hx => fr x (by omega) (by omega)⟩
