theorem wf_8 {v : Int → Int} {x : Int} (w : wf v) : wf (ku v 8 x) := by
  have w1 := wf_h w
  obtain ⟨a, b, c, d, e⟩ := w
  refine ⟨?_, fun k p q => ?_, fun k p q => ?_, fun k p q => ?_, fun k p q => ?_⟩
  · unfold wfH at *; simp (disch := omega) only [ku_ne]; exact a
  · have := b k p q; simp (disch := omega) only [ku_ne]; exact this
  · rw [ku_ne (by omega)] at q; have := c k p q; simp (disch := omega) only [ku_ne]; exact this
  · rw [ku_ne (by omega)] at q; have := d k p q; simp (disch := omega) only [ku_ne]; exact this
  · rw [ku_ne (by omega)] at q; have := e k p q; simp (disch := omega) only [ku_ne]; exact this
theorem kco_8 {σ : Kmem} {c x : Int} {v : Int → Int} (w : wf v) (h : kco σ c v) : kco σ c (ku v 8 x) := by
  have w1 := wf_h w
  refine ⟨?_, ?_, ?_, ?_, ?_⟩
  · have := h.1; unfold kcoH at this ⊢; simp (disch := omega) only [ku_ne]; exact this
  · intro k' h1 h2; have := h.2.1 k' h1 h2; simp (disch := omega) only [ku_ne]; exact this
  · intro k' h1 h2; rw [ku_ne (by omega)] at h2; have := h.2.2.1 k' h1 h2; simp (disch := omega) only [ku_ne]; exact this
  · intro k' h1 h2; rw [ku_ne (by omega)] at h2; have := h.2.2.2.1 k' h1 h2; simp (disch := omega) only [ku_ne]; exact this
  · intro k' h1 h2; rw [ku_ne (by omega)] at h2; have := h.2.2.2.2 k' h1 h2; simp (disch := omega) only [ku_ne]; exact this
/-- a text was read -/
theorem R_txt {s σ u τ : Kmem} (h : R σ τ) (c : rCt s 5 64 (u 1) (u 2)) (fs : ∀ x, x ≠ 0 → ¬ (3 ≤ x ∧ x < 58) → ¬ (64 ≤ x ∧ x < 78) → s x = σ x) (f0 : ∀ j, j ≠ 5 → s 0 j = σ 0 j) (f5 : s 0 5 = 0) (fu : ∀ x, x ≠ 0 → x ≠ 1 → x ≠ 2 → x ≠ 7 → x ≠ 8 → u x = τ x) (u0 : ∀ j, (j = 2 ∨ j = 3 ∨ j = 4 ∨ j = 26 ∨ j = 40 ∨ j = 41) → u 0 j = τ 0 j) (u10 : u 0 10 = 0) (u1 : ∀ j, 514 ≤ j → j < 2056 → u 1 j = τ 1 j) (u2 : ∀ j, 20 ≤ j → j < 80 → u 2 j = τ 2 j) (u7 : ∀ i, 0 ≤ i → i < 900 → -128 ≤ u 7 i ∧ u 7 i ≤ 127) (nm : nmR u) (fa : s 3 8 = u 0 16 ∧ s 3 9 = u 0 17) : R s u := by
  obtain ⟨h1, h2, h3, h4, h5, h6, h7, h8, h9, h10⟩ := h
  refine ⟨c, kMks h2 (f0 18 (by omega)) (u0 41 (by omega)) (fun x a => fs x (by omega) (by omega) (by omega)) u1 u2, kSt h3 ⟨f0 0 (by omega), f0 1 (by omega), f0 2 (by omega)⟩ ⟨u0 2 (by omega), u0 3 (by omega), u0 4 (by omega)⟩, ⟨by rw [f5, u10], ⟨by omega, by rw [fu 6 (by omega) (by omega) (by omega) (by omega) (by omega)]; exact h4.2.1.2.1, u7⟩, fun i a b => by omega⟩, fa, kTr h6 (fun x a b => fs x (by omega) (by omega) (by omega)) ⟨fu 3 (by omega) (by omega) (by omega) (by omega) (by omega), fu 4 (by omega) (by omega) (by omega) (by omega) (by omega), fu 5 (by omega) (by omega) (by omega) (by omega) (by omega)⟩, kFl h7 ⟨by rw [fs 82 (by omega) (by omega) (by omega)], fs 84 (by omega) (by omega) (by omega)⟩ ⟨u0 26 (by omega), fu 10 (by omega) (by omega) (by omega) (by omega) (by omega)⟩, kLv h8 (fs 78 (by omega) (by omega) (by omega)) ⟨u0 40 (by omega), fu 20 (by omega) (by omega) (by omega) (by omega) (by omega)⟩, nm, by rw [fu 18 (by omega) (by omega) (by omega) (by omega) (by omega)]; exact h10⟩
theorem rCt_w {σ : Kmem} {c d : Int} {v g : Int → Int} (h : rCt σ c d v g) : wf v := h.1.1
theorem O_county {G G' : Kg} {σ τ : Kmem} {l1 : Int} (h : R σ τ) (r1 : rI l1) : Op G G' M_X11_county M_X12_county 10 9 [vA G 0, vI l1] [vA G' 0, vI l1] σ τ := by
  obtain ⟨w, k⟩ := R_w h
  have w1 := wf_h w
  have hh := h
  obtain ⟨h1, h2, h3, h4, h5, h6, h7, h8, h9, h10⟩ := hh
  obtain ⟨t5, tp, tb⟩ := h4
  have tp1 := tp.1
  by_cases c : 0 ≤ l1 ∧ l1 ≤ τ 0 10
  · have c' : 0 ≤ l1 ∧ l1 ≤ τ 0 10 ∧ l1 ≤ 900 := by omega
    have hM := P_X12_county (G := G') (n := l1) ⟨tp, h9, r1⟩
    have cI0 := tC0_I (tA_tk1 (n := l1) tp (by omega)) (nm_same tAB_2 h9)
    have c13 := cI0.1.1.2.1
    have ok2 := cCty_ok 902 _ cI0 (by omega)
    have hC : cCty 902 (tC0 (tA (tB0 τ l1))) = tCo τ l1 := rfl
    rw [hC] at ok2
    have tbv := tB0_v (σ := τ) (n := l1)
    have F1 : ∀ x, x ≠ 0 → x ≠ 1 → x ≠ 2 → x ≠ 7 → tCo τ l1 x = τ x := fun x a b d e => by
      rw [ok2.2.2.1 x a b d]; unfold tC0 tPl; rw [kup_o a, kst_ne b, tA_fr.1 x a, tbv.2.2.1 x a e]
    have F0 : ∀ j, (j < 10 ∨ j = 16 ∨ 20 < j) → tCo τ l1 0 j = τ 0 j := fun j a => by
      rw [ok2.2.2.2.1 j (by omega)]; unfold tC0 tPl; rw [kup_j (by omega), kst_ne (by omega), tA_fr.2 j (by omega), tbv.2.2.2 j (by omega) (by omega) (by omega) (by omega) (by omega) (by omega)]
    have F10 : tCo τ l1 0 10 = 0 := by
      rw [ok2.2.2.2.1 10 (by omega)]; unfold tC0 tPl; rw [kup_j (by omega), kst_ne (by omega), tA_fr.2 10 (by omega)]; exact tbv.1.2.2.2.2
    have G1 : ∀ j, j < 2056 → tCo τ l1 1 j = τ 1 j := fun j a => by
      rw [ok2.2.2.2.2.1 j (Or.inl a)]; unfold tC0 tPl; rw [kup_o (by omega), kst_eq, if_neg (by omega), tA_fr.1 1 (by omega), tbv.2.2.1 1 (by omega) (by omega)]
    have G2 : ∀ j, j < 80 → tCo τ l1 2 j = τ 2 j := fun j a => by
      rw [ok2.2.2.2.2.2 j (Or.inl a)]; unfold tC0 tPl; rw [kup_o (by omega), kst_ne (by omega), tA_fr.1 2 (by omega), tbv.2.2.1 2 (by omega) (by omega)]
    have G7 : ∀ i, 0 ≤ i → i < 900 → -128 ≤ tCo τ l1 7 i ∧ tCo τ l1 7 i ≤ 127 := ok2.2.1.1.1.2
    have open_ : ∀ Q : Int → Kmem → Prop, (∀ r7 s8, (tCo τ l1 0 18 = 0 → r7 = 1 ∧ tY s8 (vN (tCo τ l1)) (tCo τ l1 2) (tCo τ l1 0 20)) → (tCo τ l1 0 18 ≠ 0 → r7 = 0) → tRs s8 (tCo τ l1) → (∀ x, x ≠ 0 → ¬ (3 ≤ x ∧ x ≤ 4) → ¬ (31 ≤ x ∧ x < 58) → s8 x = σ x) → (∀ j, j ≠ 5 → s8 0 j = σ 0 j) → s8 0 5 = 0 → Q r7 s8) → Run G WX M_X6_open 2 0 0 [vA G 3, vA G 2, vI l1] σ (fun r5 s6 => Run G WX M_X1_readAll 9 0 0 [vA G 57] (kup s6 0 5 0) Q) := by
      intro Q hq
      refine Run.mono (P_X6_open tp (by omega) (fun i a b => tb i a (by omega))) (fun r5 s6 e => ?_)
      obtain ⟨-, e1, e2⟩ := e
      have e3 : tRs (kup s6 0 5 0) (tA (tB0 τ l1)) := by
        unfold tRs tRt at *
        rw [kup_o (x := 3) (by omega), kup_o (x := 4) (by omega)]; exact e1
      refine Run.mono (P_X1_readAll e3 (tA_tk1 (n := l1) tp (by omega)) (nm_same tAB_2 h9)) (fun r7 s8 f => ?_)
      rw [hC] at f
      obtain ⟨g1, g2, g3, g4⟩ := f
      have s0 : s8 0 = (kup s6 0 5 0) 0 := g4 0 (by omega)
      refine hq r7 s8 g1 g2 g3 (fun x a b d => ?_) (fun j a => ?_) ?_
      · rw [g4 x (by omega), kup_o a, e2 x (by omega)]
      · rw [s0, kup_j a, e2 0 (by omega)]
      · rw [s0, kup_at]
    by_cases z : tCo τ l1 0 18 = 0
    · have cz1 := (ok2.1.1 z).1.2.2.2
      generalize hu : tCo τ l1 = u at *
      have wV : wf (vN u) := cz1.1
      have v7 := cz1.2.2.2.1
      have v8 := cz1.2.2.2.2
      refine ⟨_, _, S_X11_county (Q := fun r s => r = vN u 2 ∧ ∃ S, s = kup S 0 0 0 ∧ (∀ x, x ≠ 0 → ¬ (3 ≤ x ∧ x < 58) → ¬ (64 ≤ x ∧ x < 78) → S x = σ x) ∧ (∀ j, j ≠ 5 → S 0 j = σ 0 j) ∧ S 0 5 = 0 ∧ rCt S 5 64 (vN u) (fun j => u 2 (80 + j)) ∧ S 3 8 = u 0 18 ∧ S 3 9 = u 0 17) ?_, Run.mono hM (fun r t e => (e.2 c').2 z), fun r s r' t x y => ?_⟩
      · rw [t5]
        refine ⟨r1, fun q => by omega, fun _ => ⟨by constructor <;> omega, fun _ => ?_, fun q => by omega⟩⟩
        refine open_ _ (fun r7 s8 g1 g2 g3 g4 g5 g6 => ?_)
        obtain ⟨y1, y2⟩ := g1 z
        rw [y1]
        refine ⟨by decide, fun _ => ?_, fun n => absurd n (by decide)⟩
        refine Run.mono (P_X0_copy (v := vN u) isC_5 isC_31 ⟨by decide, wV, y2.1⟩) (fun r s11 e => ?_)
        obtain ⟨-, e1, e2, e3, e4, -⟩ := e
        refine Run.mono (P_X7_clear isS_64) (fun r s13 f => ?_)
        obtain ⟨-, f1, f2, f3, f4, f5⟩ := f
        have k13 : kco s13 5 (vN u) := kco_kfm wV e2 f1 (fun x a b q => by omega)
        have sx : ∀ x, x ≠ 64 → ¬ (5 ≤ x ∧ x < 31) → s13 x = s8 x := fun x a b => by rw [f1 x a, e1 x b]
        have s0 := sx 0 (by omega) (by omega)
        refine ⟨(kco_h k13).2.2.1, s13, rfl, fun x a b d => by rw [sx x (by omega) (by omega), g4 x a (by omega) (by omega)], fun j a => by rw [s0, g5 j a], by rw [s0, g6], ⟨⟨wV, ⟨by omega, fun k a b => by omega, fun o' b a1 a2 a3 a4 a5 a6 => by omega⟩, by omega⟩, k13, ⟨⟨Or.inl f2, by omega⟩, ⟨fun _ => v8, fun _ => f2⟩, fun n => absurd v8 n, fun k a b => by omega⟩, fun k a b => ?_, fun k a b => ?_⟩, ?_, ?_⟩
        · have := y2.2.1.1 k a b
          rw [f1 _ (by have := wf_h wV; omega), e3 k a b 0 (by omega) (by omega)]
          show nmE _ (u 2 (80 + (0 + k)))
          rw [Int.zero_add]; exact this
        · have := y2.2.1.2.1 k a b
          rw [f1 _ (by have := wf_h wV; omega), e4 k a b 0 (by omega) (by omega)]
          show nmE _ (u 2 (80 + (6 + k)))
          rw [show (80 : Int) + (6 + k) = 86 + k by omega]; exact this
        · rw [sx 3 (by omega) (by omega)]; exact g3.2.2.1.1
        · rw [sx 3 (by omega) (by omega)]; exact g3.2.2.1.2
      · obtain ⟨x1, S, rfl, a1, a2, a3, a4, a5, a6⟩ := x
        obtain ⟨y1, rfl⟩ := y
        have q18 : (tCq u) 0 18 = u 0 18 := by unfold tCq; rw [kst_ne (by omega), kst_ne (by omega)]
        have eT : tTk (tCq u) = kup (kup (tCq u) 0 16 (u 0 18)) 0 2 0 := by unfold tTk; rw [if_pos (by rw [q18]; exact z), q18]
        have Q0 : (tCq u) 0 = u 0 := by unfold tCq; rw [kst_ne (by omega), kst_ne (by omega)]
        have Q1 : ∀ j, (kup (tCq u) 0 16 (u 0 18)) 1 j = if 0 ≤ j ∧ j < 0 + 514 then u 1 (2056 + (j - 0)) else u 1 j := fun j => by rw [kup_o (by omega)]; unfold tCq; rw [kst_ne (by omega), kst_eq]; rfl
        have Q2 : ∀ j, (kup (tCq u) 0 16 (u 0 18)) 2 j = if 0 ≤ j ∧ j < 0 + 20 then u 2 (80 + (j - 0)) else u 2 j := fun j => by rw [kup_o (by omega)]; unfold tCq; rw [kst_eq]; rfl
        have Qx : ∀ x, x ≠ 0 → x ≠ 1 → x ≠ 2 → (kup (tCq u) 0 16 (u 0 18)) x = u x := fun x a b d => by rw [kup_o a]; unfold tCq; rw [kst_ne d, kst_ne b]
        have nu : nmR u := ok2.2.1.2
        refine ⟨by rw [x1, y1]; rfl, ?_⟩
        rw [eT]
        refine R_st (R_txt h (rCt_eq a4 (fun j a b => ?_) (fun j a b => ?_)) a1 a2 a3 (fun x a b d e _ => by rw [Qx x a b d]; exact F1 x a b d e) (fun j a => by rw [kup_j (by omega), Q0]; exact F0 j (by omega)) (by rw [kup_j (by omega), Q0]; exact F10) (fun j a b => by rw [Q1, if_neg (by omega)]; exact G1 j b) (fun j a b => by rw [Q2, if_neg (by omega)]; exact G2 j b) (fun i a b => by rw [Qx 7 (by omega) (by omega) (by omega)]; exact G7 i a b) (fun j a b => ?_) ⟨by rw [kup_at]; exact a5, by rw [kup_j (by omega), Q0]; exact a6⟩) (by decide)
        · rw [Q1, if_pos (by omega), Int.sub_zero]; rfl
        · rw [Q2, if_pos (by omega), Int.sub_zero]
        · rw [Q2]; split
          · exact nu _ (by omega) (by omega)
          · exact nu j a b
    · generalize hu : tCo τ l1 = u at *
      refine ⟨_, _, S_X11_county (Q := fun r s => r = -1 ∧ ∃ S, s = kup S 0 0 9 ∧ tRs S u ∧ (∀ x, x ≠ 0 → ¬ (3 ≤ x ∧ x ≤ 4) → ¬ (31 ≤ x ∧ x < 58) → S x = σ x) ∧ (∀ j, j ≠ 5 → S 0 j = σ 0 j) ∧ S 0 5 = 0) ?_, Run.mono hM (fun r t e => (e.2 c').1 z), fun r s r' t x y => ?_⟩
      · rw [t5]
        refine ⟨r1, fun q => by omega, fun _ => ⟨by constructor <;> omega, fun _ => ?_, fun q => by omega⟩⟩
        refine open_ _ (fun r7 s8 g1 g2 g3 g4 g5 g6 => ?_)
        rw [g2 z]
        exact ⟨by decide, fun n => absurd rfl n, fun _ => ⟨rfl, s8, rfl, g3, g4, g5, g6⟩⟩
      · obtain ⟨x1, S, rfl, a0, a1, a2, a3⟩ := x
        obtain ⟨y1, rfl⟩ := y
        have eT : tTk u = kup (kup u 0 16 (u 0 18)) 0 2 9 := by unfold tTk; rw [if_neg z]
        have Qx : ∀ x, x ≠ 0 → (kup u 0 16 (u 0 18)) x = u x := fun x a => kup_o a
        refine ⟨by rw [x1, y1], ?_⟩
        rw [eT]
        refine R_st (R_txt h (kCt h1 (fun x a b => a1 x (by omega) (by omega) (by omega)) (fun x a b => a1 x (by omega) (by omega) (by omega)) (fun j a b => by rw [Qx 1 (by omega)]; exact G1 j (by omega)) (fun j a b => by rw [Qx 2 (by omega)]; exact G2 j (by omega))) (fun x a b d => a1 x a (by omega) (by omega)) a2 a3 (fun x a b d e _ => by rw [Qx x a]; exact F1 x a b d e) (fun j a => by rw [kup_j (by omega)]; exact F0 j (by omega)) (by rw [kup_j (by omega)]; exact F10) (fun j a b => by rw [Qx 1 (by omega)]; exact G1 j b) (fun j a b => by rw [Qx 2 (by omega)]; exact G2 j b) (fun i a b => by rw [Qx 7 (by omega)]; exact G7 i a b) (nm_same (Qx 2 (by omega)) ok2.2.1.2) ⟨by rw [kup_at]; exact a0.2.2.1.1, by rw [kup_j (by omega)]; exact a0.2.2.1.2⟩) (by decide)
  · have c' : ¬ (0 ≤ l1 ∧ l1 ≤ τ 0 10 ∧ l1 ≤ 900) := by omega
    refine Op_pure (-1) 1 h (by decide) (S_X11_county ?_) (Run.mono (P_X12_county (n := l1) ⟨tp, h9, r1⟩) (fun r t e => ?_))
    · rw [t5]
      all_goals (repeat' (with_reducible first | assumption | intro _ | refine And.intro ?_ ?_))
      all_goals (first | omega | contradiction | rfl | exact fX.refl | exact fM.refl | exact kb_0 (by decide) | exact kb_1 rfl | trivial | skip)
    · have := e.1 c'
      rw [this.1, this.2]; exact ⟨rfl, fM.refl⟩
