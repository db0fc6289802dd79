/-! Seasons: an end, a step's word -/
theorem P_X7_readEnd {G : Kg} {σ τ : Kmem} {s : Int} (hs : isS s) (h : tRs σ τ) (t : tk1 τ) (hd : 0 ≤ σ s 9 ∧ σ s 9 ≤ 3) (hn' : 0 ≤ σ s 2 ∧ (σ s 9 ≠ 0 → σ s 2 < 60)) (ho : σ s 9 ≠ 0 → 0 ≤ σ (s + 6) (σ s 9 - 1) ∧ σ (s + 6) (σ s 9 - 1) < 60) : Run G WX M_X7_readEnd 2 0 0 [vA G s, vA G 3] σ (fun y m => (σ s 9 = 0 → y = 0 ∧ tRs m (tF τ 2) ∧ kS jB m σ) ∧ (σ s 9 ≠ 0 → y = 1 ∧ tRs m (tA τ) ∧ (m s 9 = σ s 9 - 1 ∧ ∀ j, j ≠ 9 → m s j = σ s j) ∧ m (s + 1) = ku (σ (s + 1)) (σ s 2) 9 ∧ m (s + 5) = ku (ku (σ (s + 5)) (σ s 2) (σ (s + 6) (σ s 9 - 1))) (σ (s + 6) (σ s 9 - 1)) (σ s 2) ∧ ∀ x, x ≠ 3 → x ≠ s → x ≠ s + 1 → x ≠ s + 5 → m x = σ x)) := by
  have fs := isS_f hs
  refine S_X7_readEnd hs ⟨by constructor <;> omega, fun q => ⟨tRs_r2 h t.1, fun _ => ⟨rfl, tRs_F h t, xF_B⟩, fun z => absurd q z⟩, fun q => ⟨by constructor <;> omega, fun _ => ?_, fun z => by omega⟩⟩
  have hn : 0 ≤ σ s 2 ∧ σ s 2 < 60 := ⟨hn'.1, hn'.2 q⟩
  have o := ho q
  refine Run.mono (P_X6_next' h t.1) (fun r s7 e => ?_)
  obtain ⟨-, e2, e3⟩ := e
  have c : ∀ x, x ≠ 3 → s7 x = σ x := e3.1
  have cs := c s (by omega)
  rw [cs]
  intro m8 e8
  have a9 : m8 s 9 = σ s 9 - 1 := by rw [e8, kup_at]
  have aj : ∀ j, j ≠ 9 → m8 s j = σ s j := fun j hj => by rw [e8, kup_j hj, cs]
  have ax : ∀ x, x ≠ s → m8 x = s7 x := fun x hx => by rw [e8, kup_o hx]
  rw [aj 2 (by omega)]
  refine ⟨hn, fun m11 e11 => ?_⟩
  have bx : ∀ x, x ≠ s + 1 → m11 x = m8 x := fun x hx => by rw [e11, kup_o hx]
  have b6 : m11 (s + 6) = σ (s + 6) := by rw [bx _ (by omega), ax _ (by omega), c _ (by omega)]
  rw [bx s (by omega), a9, aj 2 (by omega), b6]
  refine ⟨by omega, hn, fun m15 e15 => ?_⟩
  have dx : ∀ x, x ≠ s + 5 → m15 x = m11 x := fun x hx => by rw [e15, kup_o hx]
  rw [dx s (by omega), bx s (by omega), a9, aj 2 (by omega), dx (s + 6) (by omega), b6]
  refine ⟨by omega, o, fun m19 e19 => ⟨fun z => absurd z q, fun _ => ⟨rfl, ?_, ⟨?_, fun j hj => ?_⟩, ?_, ?_, fun x x3 x0 x1 x5 => ?_⟩⟩⟩
  · rw [e19, e15, e11, e8]
    exact tRs_57 (tRs_57 (tRs_57 (tRs_57 e2 (by omega)) (by omega)) (by omega)) (by omega)
  · rw [e19, kup_o (by omega), dx s (by omega), bx s (by omega), a9]
  · rw [e19, kup_o (by omega), dx s (by omega), bx s (by omega), aj j hj]
  · rw [e19, kup_o (by omega), dx _ (by omega), e11, kup_k, kst_eq, ax _ (by omega), c _ (by omega)]
  · rw [e19, kup_k, kst_eq, e15, kup_k, kst_eq, bx _ (by omega), ax _ (by omega), c _ (by omega)]
  · rw [e19, kup_o (by omega), dx _ (by omega), bx _ (by omega), ax _ (by omega), c _ (by omega)]
/-- what a step's word brings -/
def wOk (s k d : Int) (τ σ m : Kmem) : Prop := tRs m (tA τ) ∧ (m s 1 = σ s 1 + 1 ∧ m s 9 = d ∧ ∀ j, j ≠ 1 → j ≠ 9 → m s j = σ s j) ∧ m (s + 1) = ku (σ (s + 1)) (σ s 2) (kKd k) ∧ (m (s + 6) = if k = 20 ∨ k = 21 then ku (σ (s + 6)) (σ s 9) (σ s 2) else σ (s + 6)) ∧ ∀ x, x ≠ 3 → x ≠ s → x ≠ s + 1 → x ≠ s + 6 → m x = σ x
theorem P_X7_readStepWord {G : Kg} {σ τ : Kmem} {s : Int} (hs : isS s) (h : tRs σ τ) (t : tk1 τ) (hd : 0 ≤ σ s 9 ∧ σ s 9 ≤ 3) (hn : 0 ≤ σ s 2 ∧ (σ s 1 < 30 → σ s 2 < 60)) (hc : 0 ≤ σ s 1 ∧ σ s 1 ≤ 30) (h60 : σ s 2 ≤ 60) : Run G WX M_X7_readStepWord 6 0 0 [vA G s, vA G 3] σ (fun y m => (¬ (15 ≤ tWi τ ∧ tWi τ ≤ 23 ∧ tWi τ ≠ 22) → y = 0 ∧ tRs m (tF τ 2) ∧ kS jB m σ) ∧ ((15 ≤ tWi τ ∧ tWi τ ≤ 23 ∧ tWi τ ≠ 22) → (σ s 1 = 30 → y = 0 ∧ tRs m (tF τ 6) ∧ kS jB m σ) ∧ (σ s 1 ≠ 30 → ((tWi τ = 20 ∨ tWi τ = 21) ∧ σ s 9 = 3 → y = 0 ∧ tRs m (tF τ 7) ∧ kS jB m σ) ∧ (¬ ((tWi τ = 20 ∨ tWi τ = 21) ∧ σ s 9 = 3) → y = 1 ∧ wOk s (tWi τ) (σ s 9 + if tWi τ = 20 ∨ tWi τ = 21 then 1 else 0) τ σ m)))) := by
  have fs := isS_f hs
  refine S_X7_readStepWord hs (Run.mono (P_X7_kindOf hs h t.1) (fun r1 s2 e => ?_))
  obtain ⟨e1, e2, e3⟩ := e
  subst e3
  by_cases v : 15 ≤ tWi τ ∧ tWi τ ≤ 23 ∧ tWi τ ≠ 22
  rotate_left
  · have e2 := e2 v
    subst e2
    exact ⟨by decide, fun z => absurd rfl z, fun _ => ⟨tRs_r2 h t.1, fun _ => ⟨rfl, tRs_F h t, xF_B⟩, fun z => absurd z v⟩⟩
  have e1 := e1 v
  have kd : 1 ≤ kKd (tWi τ) ∧ kKd (tWi τ) ≤ 8 ∧ (kKd (tWi τ) = 6 ↔ tWi τ = 20) ∧ (kKd (tWi τ) = 7 ↔ tWi τ = 21) := by
    have q : tWi τ = 15 ∨ tWi τ = 16 ∨ tWi τ = 17 ∨ tWi τ = 18 ∨ tWi τ = 19 ∨ tWi τ = 20 ∨ tWi τ = 21 ∨ tWi τ = 23 := by omega
    generalize tWi τ = k at q
    rcases q with q | q | q | q | q | q | q | q <;> subst q <;> decide
  obtain ⟨k1, k2, k6, k7⟩ := kd
  rw [← e1] at k1 k2 k6 k7
  have wr : ∀ m : Kmem, True := fun _ => trivial
  refine ⟨by constructor <;> omega, fun _ => ⟨by constructor <;> omega, fun q => ⟨tRs_r2 h t.1, fun z => absurd v z, fun _ => ⟨fun _ => ⟨rfl, tRs_F h t, xF_B⟩, fun z => by omega⟩⟩, fun q => ⟨by constructor <;> omega, fun q2 => ?_, fun q2 => by omega⟩⟩, fun z => by omega⟩
  have opens : (tWi τ = 20 ∨ tWi τ = 21) → E_X7_readStepWord_54 G s r1 s2 (fun y m => (¬ (15 ≤ tWi τ ∧ tWi τ ≤ 23 ∧ tWi τ ≠ 22) → y = 0 ∧ tRs m (tF τ 2) ∧ kS jB m s2) ∧ ((15 ≤ tWi τ ∧ tWi τ ≤ 23 ∧ tWi τ ≠ 22) → (s2 s 1 = 30 → y = 0 ∧ tRs m (tF τ 6) ∧ kS jB m s2) ∧ (s2 s 1 ≠ 30 → ((tWi τ = 20 ∨ tWi τ = 21) ∧ s2 s 9 = 3 → y = 0 ∧ tRs m (tF τ 7) ∧ kS jB m s2) ∧ (¬ ((tWi τ = 20 ∨ tWi τ = 21) ∧ s2 s 9 = 3) → y = 1 ∧ wOk s (tWi τ) (s2 s 9 + if tWi τ = 20 ∨ tWi τ = 21 then 1 else 0) τ s2 m)))) := by
    intro op
    refine S_X7_readStepWord_54 hs ⟨by constructor <;> omega, fun q3 => ⟨by omega, fun m24 e24 m26 e26 => ?_⟩, fun q3 => ⟨tRs_r2 h t.1, fun z => absurd v z, fun _ => ⟨fun z => by omega, fun _ => ⟨fun _ => ⟨rfl, tRs_F h t, xF_B⟩, fun z => absurd ⟨op, by omega⟩ z⟩⟩⟩⟩
    have a9 : m26 s 9 = s2 s 9 + 1 := by rw [e26, kup_at, e24, kup_o (by omega)]
    have aj : ∀ j, j ≠ 9 → m26 s j = s2 s j := fun j hj => by rw [e26, kup_j hj, e24, kup_o (by omega)]
    have a6 : m26 (s + 6) = ku (s2 (s + 6)) (s2 s 9) (s2 s 2) := by rw [e26, kup_o (by omega), e24, kup_k, kst_eq]
    have ax : ∀ x, x ≠ s → x ≠ s + 6 → m26 x = s2 x := fun x p q => by rw [e26, kup_o p, e24, kup_o q]
    rw [aj 2 (by omega)]
    refine ⟨by omega, fun m29 e29 m31 e31 => ?_⟩
    have b1 : m31 (s + 1) = ku (s2 (s + 1)) (s2 s 2) r1 := by rw [e31, kup_o (by omega), e29, kup_k, kst_eq, ax _ (by omega) (by omega)]
    have bs1 : m31 s 1 = s2 s 1 + 1 := by rw [e31, kup_at, e29, kup_o (by omega), aj 1 (by omega)]
    have bsj : ∀ j, j ≠ 1 → m31 s j = m26 s j := fun j hj => by rw [e31, kup_j hj, e29, kup_o (by omega)]
    have bx : ∀ x, x ≠ s → x ≠ s + 1 → m31 x = m26 x := fun x p q => by rw [e31, kup_o p, e29, kup_o q]
    have r31 : tRs m31 τ := by
      rw [e31, e29, e26, e24]
      exact tRs_57 (tRs_57 (tRs_57 (tRs_57 h (by omega)) (by omega)) (by omega)) (by omega)
    refine Run.mono (P_X6_next' r31 t.1) (fun r' m e => ?_)
    obtain ⟨-, f2, f3⟩ := e
    refine ⟨fun z => absurd v z, fun _ => ⟨fun z => by omega, fun _ => ⟨fun z => by omega, fun _ => ⟨rfl, f2, ⟨?_, ?_, fun j j1 j9 => ?_⟩, ?_, ?_, fun x x3 x0 x1 x6 => ?_⟩⟩⟩⟩
    · rw [f3.1 s (by omega), bs1]
    · rw [f3.1 s (by omega), bsj 9 (by omega), a9, if_pos op]
    · rw [f3.1 s (by omega), bsj j j1, aj j j9]
    · rw [f3.1 _ (by omega), b1, e1]
    · rw [f3.1 _ (by omega), bx _ (by omega) (by omega), a6, if_pos op]
    · rw [f3.1 x x3, bx x x0 x1, ax x x0 x6]
  refine ⟨fun q6 => opens (Or.inl (k6.1 q6)), fun q6 => ⟨fun q7 => ⟨by omega, fun m10 e10 m12 e12 => ?_⟩, fun q7 => opens (Or.inr (k7.1 q7))⟩⟩
  have nop : ¬ (tWi τ = 20 ∨ tWi τ = 21) := fun z => z.elim (fun z => q6 (k6.2 z)) (fun z => q7 (k7.2 z))
  have b1 : m12 (s + 1) = ku (s2 (s + 1)) (s2 s 2) r1 := by rw [e12, kup_o (by omega), e10, kup_k, kst_eq]
  have bs1 : m12 s 1 = s2 s 1 + 1 := by rw [e12, kup_at, e10, kup_o (by omega)]
  have bsj : ∀ j, j ≠ 1 → m12 s j = s2 s j := fun j hj => by rw [e12, kup_j hj, e10, kup_o (by omega)]
  have bx : ∀ x, x ≠ s → x ≠ s + 1 → m12 x = s2 x := fun x p q => by rw [e12, kup_o p, e10, kup_o q]
  have r12 : tRs m12 τ := by
    rw [e12, e10]
    exact tRs_57 (tRs_57 h (by omega)) (by omega)
  refine Run.mono (P_X6_next' r12 t.1) (fun r' m e => ?_)
  obtain ⟨-, f2, f3⟩ := e
  refine ⟨fun z => absurd v z, fun _ => ⟨fun z => by omega, fun _ => ⟨fun z => absurd z.1 nop, fun _ => ⟨rfl, f2, ⟨?_, ?_, fun j j1 j9 => ?_⟩, ?_, ?_, fun x x3 x0 x1 x6 => ?_⟩⟩⟩⟩
  · rw [f3.1 s (by omega), bs1]
  · rw [f3.1 s (by omega), bsj 9 (by omega), if_neg nop, Int.add_zero]
  · rw [f3.1 s (by omega), bsj j j1]
  · rw [f3.1 _ (by omega), b1, e1]
  · rw [f3.1 _ (by omega), bx _ (by omega) (by omega), if_neg nop]
  · rw [f3.1 x x3, bx x x0 x1]
