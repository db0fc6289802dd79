theorem pJ_0 {K P K' P' : Int → Int} {n : Int} {o : Int → Int} (h : pJ K P n 0 o) (eK : ∀ k, 0 ≤ k → k < n → K' k = K k) (eP : ∀ k, 0 ≤ k → k < n → P' k = P k) : pJ K' P' n 0 o := by
  obtain ⟨h1, h2, h3⟩ := h
  refine ⟨fun i a b => by omega, fun k a b p => ?_, fun k a b p => ?_⟩
  · rw [eK k a b] at p
    rcases h2 k a b p with ⟨i, hi, -⟩ | ⟨x1, x2, x3, x4⟩
    · omega
    · refine Or.inr ?_
      rw [eP k a b, eK _ (by omega) (by omega), eP _ (by omega) (by omega)]
      refine ⟨x1, x2, x3, fun c c1 c2 c3 => ?_⟩
      rw [eK c (by omega) (by omega)] at c3
      rw [eP c (by omega) (by omega)]
      exact ⟨(x4 c c1 c2 c3).1, fun i a b => by omega⟩
  · rw [eK k a b] at p
    obtain ⟨x1, x2, x3, -⟩ := h3 k a b p
    rw [eP k a b, eK _ (by omega) (by omega), eP _ (by omega) (by omega)]
    exact ⟨x1, x2, x3, fun i a b => by omega⟩
theorem pI_0 {w w' : Int → Int} {a b n : Int} {o : Int → Int} (h : pI w a b n 0 o) (e : ∀ j, 150 ≤ j → j < 150 + 6 * n → w' j = w j) : pI w' a b n 0 o := by
  refine ⟨fun k p q => ?_, pJ_0 h.2 (fun k p q => e _ (by omega) (by omega)) (fun k p q => e _ (by omega) (by omega))⟩
  have l := h.1 k p q
  unfold pL0 at l ⊢
  rw [e (150 + 6 * k) (by omega) (by omega), e (150 + 6 * k + 1) (by omega) (by omega), e (150 + 6 * k + 2) (by omega) (by omega), e (150 + 6 * k + 5) (by omega) (by omega)]
  exact l
/-- what was read is what is lived -/
theorem kpr_read {m : Kmem} {s c n : Int} {w W o : Int → Int} (h0 : m s 0 = 1) (h : zP s m w o c n 0) (hn : 0 ≤ n ∧ n ≤ 60) (h8 : W 8 = n) (e : ∀ j, 150 ≤ j → j < 510 → W j = w j) : kpr m s W := by
  obtain ⟨⟨z1, z2, z3⟩, -, z4⟩ := h
  refine ⟨⟨Or.inr h0, by omega⟩, ⟨fun q => by omega, fun q => by omega⟩, fun _ => by rw [z2, h8], fun k a b => ?_⟩
  rw [h8] at b
  obtain ⟨y1, ⟨y2, y3, y4, y5⟩, y6⟩ := z4 k a b
  have e0 := e (150 + 6 * k) (by omega) (by omega)
  have e1 := e (150 + 6 * k + 1) (by omega) (by omega)
  have e2 := e (150 + 6 * k + 2) (by omega) (by omega)
  have e4 := e (150 + 6 * k + 4) (by omega) (by omega)
  have e5 := e (150 + 6 * k + 5) (by omega) (by omega)
  unfold kprL kTs
  rw [e0, e1, e2, e4, e5]
  refine ⟨y1, fun q => y2 q, y3, y4, y5, fun q => y6 ?_⟩
  rcases q with q | q | q
  · exact Or.inr ⟨Or.inl q, fun i a b => by omega⟩
  · exact Or.inl q
  · exact Or.inr ⟨Or.inr q, fun i a b => by omega⟩
theorem O_seasons {G G' : Kg} {σ τ : Kmem} {l1 : Int} (h : R σ τ) (r1 : rI l1) : Op G G' M_X11_seasons M_X12_seasons 10 11 [vA G 0, vI l1] [vA G' 0, vI l1] σ τ := by
  obtain ⟨w, k⟩ := R_w h
  have w1 := wf_h w
  have hh := h
  obtain ⟨h1, h2, h3, h4, h5, h6, h7, h8, h9, h10⟩ := hh
  obtain ⟨t5, tp, tb⟩ := h4
  have tp1 := tp.1
  by_cases c : 0 ≤ l1 ∧ l1 ≤ τ 0 10 ∧ l1 ≤ 300
  · have hM := P_X12_seasons (G := G') (n := l1) ⟨tp, h9, r1, by omega, by omega⟩
    have cI0 := sS0_I (n := l1) tp (by omega) h9 (by omega) (by omega)
    have c13 := cI0.1.1.1.1.2.1
    have ok2 := cSea_ok 902 _ cI0 (by omega)
    have hC : cSea 902 (sS0 (tA (tB0 τ l1))) = tSe τ l1 := rfl
    rw [hC] at ok2
    have tbv := tB0_v (σ := τ) (n := l1)
    have a1 : (tA (tB0 τ l1)) 1 = τ 1 := by rw [tA_fr.1 1 (by omega), tbv.2.2.1 1 (by omega) (by omega)]
    have a2 : (tA (tB0 τ l1)) 2 = τ 2 := tAB_2
    have a11 : (tA (tB0 τ l1)) 0 11 = l1 := by rw [tA_fr.2 11 (by omega)]; exact tbv.1.1
    have F1 : ∀ x, x ≠ 0 → x ≠ 1 → x ≠ 2 → x ≠ 7 → x ≠ 8 → tSe τ l1 x = τ x := fun x a b d e f => by
      rw [ok2.2.2.1 x a b d f]; unfold sS0; rw [kup_o a, kup_o a, kup_o b, tA_fr.1 x a, tbv.2.2.1 x a e]
    have F0 : ∀ j, (j < 10 ∨ j = 16 ∨ 23 < j) → tSe τ l1 0 j = τ 0 j := fun j a => by
      rw [ok2.2.2.2.1 j (by omega)]; unfold sS0; rw [kup_j (by omega), kup_j (by omega), kup_x (by omega), tA_fr.2 j (by omega), tbv.2.2.2 j (by omega) (by omega) (by omega) (by omega) (by omega) (by omega)]
    have F10 : tSe τ l1 0 10 = 0 := by
      rw [ok2.2.2.2.1 10 (by omega)]; unfold sS0; rw [kup_j (by omega), kup_j (by omega), kup_x (by omega), tA_fr.2 10 (by omega)]; exact tbv.1.2.2.2.2
    have G1 : ∀ j, j < 2056 → tSe τ l1 1 j = τ 1 j := fun j a => by
      rw [ok2.2.2.2.2.1 j (Or.inl a)]; unfold sS0; rw [kup_x (by omega), kup_x (by omega), kup_j (by omega), a1]
    have G2 : ∀ j, j < 80 → tSe τ l1 2 j = τ 2 j := fun j a => by
      rw [ok2.2.2.2.2.2 j (Or.inl a)]; unfold sS0; rw [kup_x (by omega), kup_x (by omega), kup_x (by omega), a2]
    have G7 : ∀ i, 0 ≤ i → i < 900 → -128 ≤ tSe τ l1 7 i ∧ tSe τ l1 7 i ≤ 127 := ok2.2.1.1.1.2
    have open_ : ∀ Q : Int → Kmem → Prop, (∀ r7 s8, (tSf (tSe τ l1) 0 18 = 0 → r7 = 1 ∧ s8 71 0 = 1 ∧ zP 71 s8 (vN (tSe τ l1)) (tSe τ l1 8) (tSe τ l1 0 23) (tSe τ l1 1 2064) 0) → (tSf (tSe τ l1) 0 18 ≠ 0 → r7 = 0) → tRs s8 (tSf (tSe τ l1)) → (∀ x, x ≠ 0 → ¬ (3 ≤ x ∧ x ≤ 4) → ¬ (71 ≤ x ∧ x < 78) → s8 x = σ x) → (∀ j, j ≠ 5 → s8 0 j = σ 0 j) → s8 0 5 = 0 → Q r7 s8) → Run G WX M_X6_open 2 0 0 [vA G 3, vA G 2, vI l1] σ (fun r5 s6 => Run G WX M_X7_readAll 9 0 0 [vA G 71, vA G 3, vA G 5] (kup s6 0 5 0) Q) := by
      intro Q hq
      refine Run.mono (P_X6_open tp (by omega) (fun i a b => tb i a (by omega))) (fun r5 s6 e => ?_)
      obtain ⟨-, e1, e2⟩ := e
      have e3 : tRs (kup s6 0 5 0) (tA (tB0 τ l1)) := by
        unfold tRs tRt at *
        rw [kup_o (x := 3) (by omega), kup_o (x := 4) (by omega)]; exact e1
      have sx : ∀ x, x ≠ 0 → ¬ (x = 3 ∨ x = 4) → (kup s6 0 5 0) x = σ x := fun x a b => by rw [kup_o a, e2 x b]
      have nz : nmZ (kup s6 0 5 0) 5 (tA (tB0 τ l1)) := by
        unfold nmZ
        rw [a1, a2, sx 5 (by omega) (by omega)]
        refine ⟨⟨(kco_h k).2.2.1, fun i a b => ?_⟩, (kco_h k).2.2.2.1, fun i a b => ?_⟩
        · rw [sx _ (by omega) (by omega)]; exact h1.2.2.2.1 i a b
        · rw [sx _ (by omega) (by omega)]; exact h1.2.2.2.2 i a b
      refine Run.mono (P_X7_readAll isS_71 isC_5 (by omega) e3 cI0 nz (by rw [a11]; omega)) (fun r7 s8 f => ?_)
      rw [hC] at f
      obtain ⟨g1, g2, g3, g4⟩ := f
      have s0 : s8 0 = (kup s6 0 5 0) 0 := g4 0 (by omega)
      refine hq r7 s8 g1 g2 g3 (fun x a b d => ?_) (fun j a => ?_) ?_
      · rw [g4 x (by omega), sx x a (by omega)]
      · rw [s0, kup_j a, e2 0 (by omega)]
      · rw [s0, kup_at]
    by_cases z : tSf (tSe τ l1) 0 18 = 0
    · generalize hu : tSe τ l1 = u at *
      have nc : ¬ (u 0 18 = 0 ∧ 0 < u 0 22) := by
        intro q
        have eT : tSf u = tF u 2 := kif_t q
        rw [eT, (tF_18 (k := 2) q.1).1] at z
        by_cases a : u 0 12 = 1
        · rw [kif_t a] at z; omega
        · rw [kif_f a] at z; omega
      have eF : tSf u = u := kif_f nc
      rw [eF] at z
      obtain ⟨⟨sk, ⟨n1, n2, n3⟩, pi⟩, -⟩ := ok2.1.1 z
      have d0 : u 0 22 = 0 := by omega
      rw [d0] at pi
      have W8 : (tSq u) 1 8 = u 1 2064 := by unfold tSq; rw [kst_eq, if_pos rfl]
      have Wl : ∀ j, 150 ≤ j → j < 510 → (tSq u) 1 j = vN u j := fun j a b => by unfold tSq; rw [kst_eq, if_neg (by omega), if_pos ⟨a, b⟩]; rfl
      have Wo : ∀ j, j ≠ 8 → ¬ (150 ≤ j ∧ j < 510) → (tSq u) 1 j = u 1 j := fun j a b => by unfold tSq; rw [kst_eq, if_neg a, if_neg b]
      have Wb : ∀ j, 0 ≤ j → j < 150 → (tSq u) 1 j = ku (τ 1) 8 (u 1 2064) j := fun j a b => by
        by_cases e : j = 8
        · rw [e, W8, ku_eq]
        · rw [ku_ne e, Wo j e (by omega), G1 j (by omega)]
      have W2 : (tSq u) 1 2 = u 1 2 := Wo 2 (by omega) (by omega)
      have W3 : (tSq u) 1 3 = u 1 3 := Wo 3 (by omega) (by omega)
      have pw : pwf ((tSq u) 1) := pwf_read (n := u 1 2064) (o := u 8) (by omega) (by rw [W2, W3]; exact pI_0 pi (fun j a b => Wl j a (by omega))) W8
      refine ⟨_, _, S_X11_seasons (Q := fun r s => r = u 0 23 ∧ ∃ S, s = kup S 0 0 0 ∧ (∀ x, x ≠ 0 → ¬ (3 ≤ x ∧ x ≤ 4) → ¬ (64 ≤ x ∧ x < 78) → S x = σ x) ∧ (∀ j, j ≠ 5 → S 0 j = σ 0 j) ∧ S 0 5 = 0 ∧ kpr S 64 ((tSq u) 1) ∧ S 3 8 = u 0 18 ∧ S 3 9 = u 0 17) ?_, Run.mono hM (fun r t e => (e.2 c).2 (by rw [eF]; exact z)), fun r s r' t x y => ?_⟩
      · rw [t5]
        refine ⟨r1, fun q => by omega, fun _ => ⟨by constructor <;> omega, fun q => by omega, fun _ => ⟨fun _ => ?_, fun q => by omega⟩⟩⟩
        refine open_ _ (fun r7 s8 g1 g2 g3 g4 g5 g6 => ?_)
        rw [eF] at g1 g3
        obtain ⟨y1, y2, y3⟩ := g1 z
        have kp := kpr_read (W := (tSq u) 1) y2 y3 (by omega) W8 Wl
        rw [y1]
        refine ⟨by decide, fun _ => ?_, fun n => absurd n (by decide)⟩
        refine Run.mono (P_X7_copy isS_64 isS_71 ⟨by decide, kp⟩) (fun r s13 f => ?_)
        obtain ⟨-, f1, f2, f3⟩ := f
        have sx : ∀ x, ¬ (64 ≤ x ∧ x < 71) → s13 x = s8 x := fun x a => f1 x (by intro q; exact a ⟨q.1, by have := q.2; omega⟩)
        have s0 := sx 0 (by omega)
        refine ⟨f3.trans y3.1.1, s13, rfl, fun x a b d => by rw [sx x (by omega), g4 x a b (by omega)], fun j a => by rw [s0, g5 j a], by rw [s0, g6], f2, ?_, ?_⟩
        · rw [sx 3 (by omega)]; exact g3.2.2.1.1
        · rw [sx 3 (by omega)]; exact g3.2.2.1.2
      · obtain ⟨x1, S, rfl, b1, b2, b3, b4, b5, b6⟩ := x
        obtain ⟨y1, rfl⟩ := y
        have Q0 : (tSq u) 0 = u 0 := by unfold tSq; rw [kst_ne (by omega)]
        have eT : tTk (tSq u) = kup (kup (tSq u) 0 16 (u 0 18)) 0 2 0 := by unfold tTk; rw [if_pos (by rw [Q0]; exact z), Q0]
        have Q1 : (kup (tSq u) 0 16 (u 0 18)) 1 = (tSq u) 1 := kup_o (by omega)
        have Qx : ∀ x, x ≠ 0 → x ≠ 1 → (kup (tSq u) 0 16 (u 0 18)) x = u x := fun x a b => by rw [kup_o a]; unfold tSq; rw [kst_ne b]
        refine ⟨by rw [x1, y1], ?_⟩
        rw [eT]
        refine R_st (R_txt h ?_ (fun x a b d => b1 x a (by omega) d) b2 b3 (fun x a b d e f => by rw [Qx x a b]; exact F1 x a b d e f) (fun j a => by rw [kup_j (by omega), Q0]; exact F0 j (by omega)) (by rw [kup_j (by omega), Q0]; exact F10) (fun j a b => by rw [Q1, Wo j (by omega) (by omega)]; exact G1 j b) (fun j a b => by rw [Qx 2 (by omega) (by omega)]; exact G2 j b) (fun i a b => by rw [Qx 7 (by omega) (by omega)]; exact G7 i a b) (nm_same (Qx 2 (by omega) (by omega)) ok2.2.1.2) ⟨by rw [kup_at]; exact b5, by rw [kup_j (by omega), Q0]; exact b6⟩) (by decide)
        rw [Q1, Qx 2 (by omega) (by omega)]
        have kS5 : kco S 5 (τ 1) := kco_kfm (A := fun x => ¬ (5 ≤ x ∧ x < 31)) w k (fun x q => b1 x (by omega) (by omega) (by omega)) (fun x a b q => q ⟨a, by omega⟩)
        refine ⟨⟨wf_ext Wb (wf_8 w), pw, by rw [Wo 7 (by omega) (by omega), G1 7 (by omega)]; exact h1.1.2.2⟩, kco_ext (wf_8 w) Wb (kco_8 w kS5), b4, ?_, ?_⟩
        · rw [W2, G1 2 (by omega)]
          intro i a b
          rw [b1 _ (by omega) (by omega) (by omega), G2 _ (by omega)]; exact h1.2.2.2.1 i a b
        · rw [W3, G1 3 (by omega)]
          intro i a b
          rw [b1 _ (by omega) (by omega) (by omega), G2 _ (by omega)]; exact h1.2.2.2.2 i a b
    · generalize hu : tSe τ l1 = u at *
      have TF : fT0 (tSf u) u ∧ tok (tSf u) ∧ nmR (tSf u) := by
        by_cases q : u 0 18 = 0 ∧ 0 < u 0 22
        · have eT : tSf u = tF u 2 := kif_t q
          rw [eT]
          have g := cG_fail (τ := u) (k := 2) ⟨ok2.2.1.1, q.1⟩ (by omega)
          exact ⟨g.1, (g.2.2.1 (fun z => z)).2, g.2.2.2 ok2.2.1.2⟩
        · have eT : tSf u = u := kif_f q
          rw [eT]; exact ⟨fT0.refl, ok2.2.1.1, ok2.2.1.2⟩
      generalize hT : tSf u = T at *
      obtain ⟨⟨T1, T2, T3, T4⟩, T5, T6⟩ := TF
      refine ⟨_, _, S_X11_seasons (Q := fun r s => r = -1 ∧ ∃ S, s = kup S 0 0 9 ∧ tRs S T ∧ (∀ x, x ≠ 0 → ¬ (3 ≤ x ∧ x ≤ 4) → ¬ (71 ≤ x ∧ x < 78) → S x = σ x) ∧ (∀ j, j ≠ 5 → S 0 j = σ 0 j) ∧ S 0 5 = 0) ?_, Run.mono hM (fun r t e => (e.2 c).1 z), fun r s r' t x y => ?_⟩
      · rw [t5]
        refine ⟨r1, fun q => by omega, fun _ => ⟨by constructor <;> omega, fun q => by omega, fun _ => ⟨fun _ => ?_, fun q => by omega⟩⟩⟩
        refine open_ _ (fun r7 s8 g1 g2 g3 g4 g5 g6 => ?_)
        rw [g2 z]
        exact ⟨by decide, fun n => absurd rfl n, fun _ => ⟨rfl, s8, rfl, g3, g4, g5, g6⟩⟩
      · obtain ⟨x1, S, rfl, a0, b1, b2, b3⟩ := x
        obtain ⟨y1, rfl⟩ := y
        have eT : tTk T = kup (kup T 0 16 (T 0 18)) 0 2 9 := by unfold tTk; rw [if_neg z]
        have Qx : ∀ x, x ≠ 0 → (kup T 0 16 (T 0 18)) x = T x := fun x a => kup_o a
        refine ⟨by rw [x1, y1], ?_⟩
        rw [eT]
        refine R_st (R_txt h (kCt h1 (fun x a b => b1 x (by omega) (by omega) (by omega)) (fun x a b => b1 x (by omega) (by omega) (by omega)) (fun j a b => by rw [Qx 1 (by omega), T3 j (by omega)]; exact G1 j (by omega)) (fun j a b => by rw [Qx 2 (by omega), T4 j (by omega)]; exact G2 j (by omega))) (fun x a b d => b1 x a (by omega) (by omega)) b2 b3 (fun x a b d e f => by rw [Qx x a, T1 x a b d]; exact F1 x a b d e f) (fun j a => by rw [kup_j (by omega), T2 j (by omega)]; exact F0 j (by omega)) (by rw [kup_j (by omega), T2 10 (by omega)]; exact F10) (fun j a b => by rw [Qx 1 (by omega), T3 j (by omega)]; exact G1 j b) (fun j a b => by rw [Qx 2 (by omega), T4 j (by omega)]; exact G2 j b) (fun i a b => by rw [Qx 7 (by omega), T1 7 (by omega) (by omega) (by omega)]; exact G7 i a b) (nm_same (Qx 2 (by omega)) T6) ⟨by rw [kup_at]; exact a0.2.2.1.1, by rw [kup_j (by omega)]; exact a0.2.2.1.2⟩) (by decide)
  · refine Op_pure (-1) 1 h (by decide) (S_X11_seasons ?_) (Run.mono (P_X12_seasons (n := l1) ⟨tp, h9, r1, by omega, by omega⟩) (fun r t e => ?_))
    · rw [t5]
      all_goals (repeat' (with_reducible first | assumption | intro _ | refine And.intro ?_ ?_))
      all_goals (first | omega | contradiction | rfl | exact fX.refl | exact fM.refl | exact kb_0 (by decide) | exact kb_1 rfl | trivial | skip)
    · have := e.1 c
      rw [this.1, this.2]; exact ⟨rfl, fM.refl⟩
