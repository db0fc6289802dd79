theorem O_live {G G' : Kg} {σ τ : Kmem} {l1 : Int} (h : R σ τ) (r1 : rI l1) : Op G G' M_X11_live M_X12_live 7 12 [vA G 0, vI l1] [vA G' 0, vI l1] σ τ := by
  refine Op_gh h (fun τ h kc => ?_)
  obtain ⟨w, k⟩ := R_w h
  have w1 := wf_h w
  have hh := h
  obtain ⟨h1, h2, h3, h4, h5, h6, h7, h8, h9, h10⟩ := hh
  have pr := h1.2.2.1
  have pw := h1.1.2.1
  by_cases c : 0 ≤ l1 ∧ l1 ≤ 9999
  · by_cases d : τ 1 8 = -1
    · have s0 := pr.2.1.2 d
      refine Op_pure (-1) 6 h (by decide) (S_X11_live ?_) (S_X12_live ?_)
      · rw [s0]
        all_goals (repeat' (with_reducible first | assumption | intro _ | refine And.intro ?_ ?_))
        all_goals (first | omega | contradiction | rfl | exact fX.refl | exact fM.refl | exact kb_0 (by decide) | exact kb_1 rfl | trivial | skip)
      · rw [d]
        all_goals (repeat' (with_reducible first | assumption | intro _ | refine And.intro ?_ ?_))
        all_goals (first | omega | contradiction | rfl | exact fX.refl | exact fM.refl | exact kb_0 (by decide) | exact kb_1 rfl | trivial | skip)
    · have s0 : σ 64 0 ≠ 0 := fun n => d (pr.2.1.1 n)
      have s1 : σ 64 0 = 1 := pr.1.1.resolve_left s0
      have p8 := pw.1
      have bp : (wf (τ 1) ∧ pwf (τ 1) ∧ τ 1 7 ≤ 9999) ∧ 0 ≤ τ 1 8 ∧ (0 ≤ l1 ∧ l1 ≤ 65535) ∧ lpR (τ 18) := ⟨h1.1, by omega, by omega, h10⟩
      have bl := sBeg_lv bp
      have bf := sBeg_f (σ := τ) (seed := l1)
      have ok := sRun_ok 300 0 (sBeg τ l1) bl.1 (Or.inl bf.2)
      have lf := ok.2.1.trans bf.1
      have hM : Run G' WM M_X12_live 12 0 0 [vA G' 0, vI l1] τ (fun r t => r = sRun 300 0 (sBeg τ l1) 0 36 ∧ ∃ v, t = kup v 0 2 0 ∧ (∀ x, x ≠ 0 → x ≠ 20 → v x = sRun 300 0 (sBeg τ l1) x) ∧ (∀ j, j ≠ 40 → v 0 j = sRun 300 0 (sBeg τ l1) 0 j) ∧ v 0 40 = 1 ∧ ∀ i, 0 ≤ i → i < 5 → v 20 i = sRun 300 0 (sBeg τ l1) 19 i) := by
        generalize hQ : (fun (r : Int) (t : Kmem) => r = sRun 300 0 (sBeg τ l1) 0 36 ∧ ∃ v, t = kup v 0 2 0 ∧ (∀ x, x ≠ 0 → x ≠ 20 → v x = sRun 300 0 (sBeg τ l1) x) ∧ (∀ j, j ≠ 40 → v 0 j = sRun 300 0 (sBeg τ l1) 0 j) ∧ v 0 40 = 1 ∧ ∀ i, 0 ≤ i → i < 5 → v 20 i = sRun 300 0 (sBeg τ l1) 19 i) = Q
        refine S_X12_live ⟨r1, ⟨by constructor <;> omega, by decide, by decide⟩, fun _ => ⟨by constructor <;> omega, fun _ => ⟨bp, ?_⟩, fun n => absurd n d⟩, fun n => absurd c n⟩
        generalize sRun 300 0 (sBeg τ l1) = T at *
        refine kloopP (E := fun i v => E_X12_live_43 G' i v Q) (fun i v => (∀ x, x ≠ 20 → v x = T x) ∧ ∀ j, 0 ≤ j → j < (i : Int) → v 20 j = T 19 j) 5 (fun i v hi hI ih => S_X12_live_43 (l1 := 0) ⟨by omega, fun q => ?_, fun q => ⟨by omega, by omega, ih (by omega) _ ?_⟩⟩) ⟨fun _ _ => rfl, fun j a b => by omega⟩
        · obtain ⟨i1, i2⟩ := hI
          rw [← hQ, kup_j (by omega), i1 0 (by omega)]
          exact ⟨rfl, kup v 0 40 1, rfl, fun x a b => by rw [kup_o a]; exact i1 x b, fun j a => by rw [kup_j a, i1 0 (by omega)], kup_at, fun j a b => by rw [kup_o (by omega)]; exact i2 j a (by omega)⟩
        · obtain ⟨i1, i2⟩ := hI
          refine ⟨fun x a => by rw [kup_o a]; exact i1 x a, fun j a b => ?_⟩
          by_cases e : j = i
          · rw [e, kup_at, i1 19 (by omega)]
          · rw [kup_j e]; exact i2 j a (by omega)
      refine ⟨_, _, S_X11_live (Q := fun r s => r = sRun 300 0 (sBeg τ l1) 0 36 ∧ ∃ u, s = kup u 0 0 0 ∧ kfm (lfA 5 78) u σ ∧ N_lEnd u 78 5 64 (sRun 300 0 (sBeg τ l1))) ?_, hM, fun r s r' t x y => ?_⟩
      · rw [s1]
        refine ⟨r1, fun q => by omega, fun _ => ⟨fun _ => ⟨by decide, fun _ => ?_, fun n => absurd n (by decide)⟩, fun q => by omega⟩⟩
        refine Run.mono (N_X4_run (M := τ) isLf_78 isS_64 isC_5 ⟨h1.1, by omega, by omega, h10, kc, pr⟩) (fun r s e => ?_)
        obtain ⟨-, e1, e2⟩ := e
        exact ⟨e2.2.2.1, s, rfl, e1, e2⟩
      · obtain ⟨x1, u, rfl, u1, u2⟩ := x
        obtain ⟨y1, v, rfl, v1, v2, v3, v4⟩ := y
        refine ⟨by rw [x1, y1], R_st ?_ (by decide)⟩
        generalize sRun 300 0 (sBeg τ l1) = T at *
        obtain ⟨⟨q1, q2⟩, q3, q4, q5, q6, q7, q8, q9⟩ := u2
        obtain ⟨f1, f2, f3, f4⟩ := lf
        have t1 : v 1 = T 1 := v1 1 (by omega) (by omega)
        have t2 : v 2 = τ 2 := (v1 2 (by omega) (by omega)).trans (f1 2 (by omega) (by omega) (by omega) (by omega))
        have tx : ∀ x, x ≠ 0 → x ≠ 1 → x ≠ 18 → x ≠ 19 → x ≠ 20 → v x = τ x := fun x a b c d e => (v1 x a e).trans (f1 x a b c d)
        have t0 : ∀ j, j ≠ 40 → j ≠ 35 → j ≠ 36 → v 0 j = τ 0 j := fun j a b c => (v2 j a).trans (f2 j b c)
        have ux : ∀ x, ¬ (5 ≤ x ∧ x < 31) → ¬ (58 ≤ x ∧ x ≤ 63) → x ≠ 78 → x ≠ 79 → u x = σ x := fun x a b c d => u1 x (fun q => by rcases q with q | q | q | q; exact a q; exact b q; exact c q; exact d (by omega))
        have nm := cm_nm kc q1 f3
        have g1 : ∀ j, 150 ≤ j → v 1 j = τ 1 j := fun j a => by rw [t1]; exact f3 j (Or.inr a)
        have s0' := ux 0 (by omega) (by omega) (by omega) (by omega)
        refine ⟨?_, kMks h2 (by rw [s0']) (t0 41 (by omega) (by omega) (by omega)) (fun x a => ux x (by omega) (by omega) (by omega) (by omega)) (fun j a b => g1 j (by omega)) (fun j a b => by rw [t2]), kSt h3 (by rw [s0']; exact ⟨rfl, rfl, rfl⟩) ⟨t0 2 (by omega) (by omega) (by omega), t0 3 (by omega) (by omega) (by omega), t0 4 (by omega) (by omega) (by omega)⟩, kTp h4 (by rw [s0']; exact ⟨rfl, ux 2 (by omega) (by omega) (by omega) (by omega)⟩) ⟨t0 10 (by omega) (by omega) (by omega), tx 6 (by omega) (by omega) (by omega) (by omega) (by omega), tx 7 (by omega) (by omega) (by omega) (by omega) (by omega)⟩, kFa h5 (ux 3 (by omega) (by omega) (by omega) (by omega)) ⟨t0 16 (by omega) (by omega) (by omega), t0 17 (by omega) (by omega) (by omega)⟩, kTr h6 (fun x a b => ux x (by omega) (by omega) (by omega) (by omega)) ⟨tx 3 (by omega) (by omega) (by omega) (by omega) (by omega), tx 4 (by omega) (by omega) (by omega) (by omega) (by omega), tx 5 (by omega) (by omega) (by omega) (by omega) (by omega)⟩, kFl h7 (by rw [ux 82 (by omega) (by omega) (by omega) (by omega)]; exact ⟨rfl, ux 84 (by omega) (by omega) (by omega) (by omega)⟩) ⟨t0 26 (by omega) (by omega) (by omega), tx 10 (by omega) (by omega) (by omega) (by omega) (by omega)⟩, ⟨⟨by rw [q3, v3], Or.inr v3⟩, fun _ => ?_⟩, ?_, ?_⟩
        · rw [t1, t2]
          refine ⟨ok.1, q1.k, q2, ?_, ?_⟩
          · rw [f4.1.2.1]
            intro i a b
            have := nm i a (by omega)
            rw [show (5 + 6 + i : Int) = 11 + i by omega, this, ← show (5 + 6 + i : Int) = 11 + i by omega]
            exact h1.2.2.2.1 i a b
          · rw [f4.1.2.2]
            intro i a b
            have := nm (6 + i) (by omega) (by omega)
            rw [show (5 + 12 + i : Int) = 11 + (6 + i) by omega, this, ← show (5 + 12 + i : Int) = 11 + (6 + i) by omega]
            exact h1.2.2.2.2 i a b
        · rw [v4 0 (by omega) (by omega), v4 1 (by omega) (by omega), v4 2 (by omega) (by omega), v4 3 (by omega) (by omega), v4 4 (by omega) (by omega)]
          exact ⟨⟨q5, q6, q7⟩, q8, q9, ok.2.2.2⟩
        · unfold nmR; rw [t2]; exact h9
        · rw [v1 18 (by omega) (by omega)]; exact ok.2.2.1
  · refine Op_pure (-1) 1 h (by decide) (S_X11_live ?_) (S_X12_live ?_)
    · all_goals (repeat' (with_reducible first | assumption | intro _ | refine And.intro ?_ ?_))
      all_goals (first | omega | contradiction | rfl | exact fX.refl | exact fM.refl | exact kb_0 (by decide) | exact kb_1 rfl | trivial | skip)
    · all_goals (repeat' (with_reducible first | assumption | intro _ | refine And.intro ?_ ?_))
      all_goals (first | omega | contradiction | rfl | exact fX.refl | exact fM.refl | exact kb_0 (by decide) | exact kb_1 rfl | trivial | skip)
/-! fractions -/
theorem R_0 {σ τ : Kmem} {j j' y : Int} (h : R σ τ) (hj : j = 1 ∧ j' = 3 ∨ j = 2 ∧ j' = 4) (hy : rL y) : R (kup σ 0 j y) (kup τ 0 j' y) := by
  obtain ⟨h1, h2, h3, h4, h5, h6, h7, h8, h9, h10⟩ := h
  have e : ∀ x, x ≠ 0 → (kup σ 0 j y) x = σ x := fun x a => kup_o a
  have e2 : ∀ x, x ≠ 0 → (kup τ 0 j' y) x = τ x := fun x a => kup_o a
  have g : ∀ i, i ≠ j → (kup σ 0 j y) 0 i = σ 0 i := fun i a => kup_j a
  have g2 : ∀ i, i ≠ j' → (kup τ 0 j' y) 0 i = τ 0 i := fun i a => kup_j a
  refine ⟨kCt h1 (fun x a b => e x (by omega)) (fun x a b => e x (by omega)) (fun i _ _ => by rw [e2 1 (by omega)]) (fun i _ _ => by rw [e2 2 (by omega)]), kMks h2 (g 18 (by omega)) (g2 41 (by omega)) (fun x a => e x (by omega)) (fun i _ _ => by rw [e2 1 (by omega)]) (fun i _ _ => by rw [e2 2 (by omega)]), ?_, kTp h4 ⟨g 5 (by omega), e 2 (by omega)⟩ ⟨g2 10 (by omega), e2 6 (by omega), e2 7 (by omega)⟩, kFa h5 (e 3 (by omega)) ⟨g2 16 (by omega), g2 17 (by omega)⟩, kTr h6 (fun x a b => e x (by omega)) ⟨e2 3 (by omega), e2 4 (by omega), e2 5 (by omega)⟩, kFl h7 ⟨by rw [e 82 (by omega)], e 84 (by omega)⟩ ⟨g2 26 (by omega), e2 10 (by omega)⟩, kLv h8 (e 78 (by omega)) ⟨g2 40 (by omega), e2 20 (by omega)⟩, ?_, ?_⟩
  · obtain ⟨a, b, c⟩ := h3
    rcases hj with ⟨rfl, rfl⟩ | ⟨rfl, rfl⟩
    · exact ⟨by rw [g 0 (by omega), g2 2 (by omega)]; exact a, ⟨by rw [kup_at, kup_at], by rw [kup_at]; exact hy⟩, by rw [g 2 (by omega), g2 4 (by omega)]; exact c⟩
    · exact ⟨by rw [g 0 (by omega), g2 2 (by omega)]; exact a, by rw [g 1 (by omega), g2 3 (by omega)]; exact b, by rw [kup_at, kup_at], by rw [kup_at]; exact hy⟩
  · unfold nmR; rw [e2 2 (by omega)]; exact h9
  · rw [e2 18 (by omega)]; exact h10
theorem Op_frac {G G' : Kg} {M M' : Km} {d d' : Nat} {as as' : List Value} {σ τ : Kmem} {n m : Int} (h : R σ τ) (hn : 0 ≤ n ∧ n ≤ 1000000) (hm' : 0 < m ∧ m ≤ 1000000) (hx : Run G WX M d 0 0 as σ (fun r s => r = 1 ∧ ∃ u, fX u σ ∧ s = kup (kup (kup u 0 1 (n / (Int.gcd n m : Int))) 0 2 (m / (Int.gcd n m : Int))) 0 0 0)) (hm : Run G' WM M' d' 0 0 as' τ (fun r t => r = 1 ∧ ∃ u, fM u τ ∧ t = kup (kup (kup u 0 3 (n / (Int.gcd n m : Int))) 0 4 (m / (Int.gcd n m : Int))) 0 2 0)) : Op G G' M M' d d' as as' σ τ :=
  ⟨_, _, hx, hm, fun r s r' t x y => by
    obtain ⟨x1, u, x2, rfl⟩ := x
    obtain ⟨y1, v, y2, rfl⟩ := y
    have a1 : 0 ≤ n / (Int.gcd n m : Int) := Int.ediv_nonneg hn.1 (by omega)
    have a2 : n / (Int.gcd n m : Int) ≤ n := Int.ediv_le_self _ hn.1
    have b1 : 0 ≤ m / (Int.gcd n m : Int) := Int.ediv_nonneg (by omega) (by omega)
    have b2 : m / (Int.gcd n m : Int) ≤ m := Int.ediv_le_self _ (by omega)
    refine ⟨by rw [x1, y1], R_st (R_0 (R_0 (R_fM (R_fX h x2) y2) (Or.inl ⟨rfl, rfl⟩) (by constructor <;> omega)) (Or.inr ⟨rfl, rfl⟩) (by constructor <;> omega)) (by decide)⟩⟩
noncomputable def sPur (v : Int → Int) (n : Nat) : Int := kfor (fun i a => a + v (34 + 9 * i + 5)) n 0
theorem sPur_r {v : Int → Int} (w : wf v) : ∀ n : Nat, (n : Int) ≤ v 2 → 0 ≤ sPur v n ∧ sPur v n ≤ 9999 * n
  | 0, _ => by show 0 ≤ (0 : Int) ∧ (0 : Int) ≤ 9999 * 0; omega
  | n + 1, hn => by
    have := sPur_r w n (by omega)
    have wk := w.2.2.1 n (by omega) (by omega)
    show 0 ≤ sPur v n + v (34 + 9 * (n : Int) + 5) ∧ sPur v n + v (34 + 9 * (n : Int) + 5) ≤ _
    omega
theorem O_share {G G' : Kg} {σ τ : Kmem} {l1 : Int} (h : R σ τ) (r1 : rI l1) : Op G G' M_X11_share M_X12_share 1 2 [vA G 0, vI l1] [vA G' 0, vI l1] σ τ := by
  obtain ⟨w, k⟩ := R_w h
  have w1 := wf_h w
  by_cases c : sKt (τ 1) l1
  · have c1 := c.1
    have c2 := c.2
    have wk := w.2.2.1 l1 c1 c2
    have K := (k.2.2.1 l1 c1 c2).2.1.2.2
    have sr := sPur_r w (τ 1 2).toNat (by omega)
    have n6 := (kco_h k).2.2.1
    have hX : ∀ Q : Int → Kmem → Prop, (sPur (τ 1) (τ 1 2).toNat ≠ 0 → Run G WX M_X11_tellFraction 0 0 0 [vA G 0, vL (τ 1 (34 + 9 * l1 + 5)), vL (sPur (τ 1) (τ 1 2).toNat)] σ (fun r11 s12 => Q 1 (kup s12 0 0 0))) → (sPur (τ 1) (τ 1 2).toNat = 0 → Q 0 (kup σ 0 0 6)) → Run G WX M_X11_share 1 0 0 [vA G 0, vI l1] σ Q := by
      intro Q q1 q2
      refine S_X11_share (v := τ 1) ⟨⟨w, k, r1⟩, fun _ => ?_, fun n => absurd c n⟩
      refine kloop (E := fun i z => E_X11_share_22 G l1 z i σ Q) (fun i => sPur (τ 1) i) (τ 1 2).toNat (fun i hi ih => S_X11_share_22 ?_)
      have si := sPur_r w i (by omega)
      rw [n6, K]
      refine ⟨by omega, by omega, fun q => ?_, fun q => ?_⟩
      · rw [show i = (τ 1 2).toNat by omega]
        exact ⟨by constructor <;> omega, fun n => ⟨by omega, by constructor <;> omega, q1 n⟩, q2⟩
      · have Ki := (k.2.2.1 i (by omega) q).2.1.2.2
        have wi := w.2.2.1 i (by omega) q
        rw [Ki]
        exact ⟨by omega, by constructor <;> omega, ih (by omega)⟩
    have hM : ∀ Q : Int → Kmem → Prop, (sPur (τ 1) (τ 1 2).toNat ≠ 0 → Run G' WM M_X12_tellsBy 1 0 0 [vA G' 0, vL (τ 1 (34 + 9 * l1 + 5)), vL (sPur (τ 1) (τ 1 2).toNat)] τ (fun r s => (r = 0 ∨ r = 1) ∧ Q r s)) → (sPur (τ 1) (τ 1 2).toNat = 0 → Q 0 (kup τ 0 2 6)) → Run G' WM M_X12_share 2 0 0 [vA G' 0, vI l1] τ Q := by
      intro Q q1 q2
      refine S_X12_share ⟨⟨r1, w⟩, fun _ => ?_, fun n => absurd c n⟩
      refine kloop (E := fun i z => E_X12_share_18 G' l1 z i τ Q) (fun i => sPur (τ 1) i) (τ 1 2).toNat (fun i hi ih => S_X12_share_18 ?_)
      have si := sPur_r w i (by omega)
      refine ⟨by omega, by omega, fun q => ?_, fun q => ⟨by omega, ih (by omega)⟩⟩
      rw [show i = (τ 1 2).toNat by omega]
      exact ⟨by constructor <;> omega, fun n => ⟨by omega, by constructor <;> omega, q1 n⟩, fun n => ⟨by decide, by rw [kb_0 (by decide)]; exact q2 n⟩⟩
    by_cases z : sPur (τ 1) (τ 1 2).toNat = 0
    · exact Op_pure 0 6 h (by decide) (hX _ (fun n => absurd z n) (fun _ => ⟨rfl, fX.refl⟩)) (hM _ (fun n => absurd z n) (fun _ => ⟨rfl, fM.refl⟩))
    · refine Op_frac (n := τ 1 (34 + 9 * l1 + 5)) (m := sPur (τ 1) (τ 1 2).toNat) h (by omega) (by omega) (hX _ (fun _ => ?_) (fun n => absurd n z)) (hM _ (fun _ => ?_) (fun n => absurd n z))
      · exact Run.mono (P_X11_tellFraction (by omega) (by omega)) (fun r s e => ⟨rfl, σ, fX.refl, by rw [e.2]⟩)
      · exact Run.mono (P_X12_tellsBy (by omega) (by omega)) (fun r s e => ⟨Or.inr e.1, e.1, τ, fM.refl, e.2⟩)
  · refine Op_pure 0 1 h (by decide) (S_X11_share (v := τ 1) ?_) (S_X12_share ?_)
    all_goals (repeat' (with_reducible first | assumption | intro _ | refine And.intro ?_ ?_))
    all_goals (first | omega | contradiction | rfl | exact fX.refl | exact fM.refl | exact kb_0 (by decide) | exact kb_1 rfl | trivial | skip)
noncomputable def sSun (v : Int → Int) (n : Nat) : Int := kfor (fun i a => a + sHad v i) n 0
theorem sHad_r {v : Int → Int} {h : Int} (w : wf v) : 0 ≤ sHad v h ∧ sHad v h ≤ 63 := kcnt_r w
theorem sSun_r {v : Int → Int} (w : wf v) : ∀ n : Nat, 0 ≤ sSun v n ∧ sSun v n ≤ 63 * n
  | 0 => by show 0 ≤ (0 : Int) ∧ (0 : Int) ≤ 63 * 0; omega
  | n + 1 => by
    have := sSun_r w n
    have := sHad_r (h := n) w
    show 0 ≤ sSun v n + sHad v n ∧ sSun v n + sHad v n ≤ _
    omega
theorem O_shaded {G G' : Kg} {σ τ : Kmem} (h : R σ τ) : Op G G' M_X11_shaded M_X12_shaded 4 8 [vA G 0] [vA G' 0] σ τ := by
  obtain ⟨w, k⟩ := R_w h
  have w1 := wf_h w
  have m0 : τ 1 0 * τ 1 1 ≤ 9 * 7 := Int.mul_le_mul (by omega) (by omega) (by omega) (by omega)
  have m1 : 0 ≤ τ 1 0 * τ 1 1 := Int.mul_nonneg (by omega) (by omega)
  by_cases c : 0 < τ 1 0
  · have m3 : 0 < τ 1 0 * τ 1 1 := Int.mul_pos c (by omega)
    have sr := sSun_r w 12
    refine Op_frac (n := sSun (τ 1) 12) (m := 12) h (by omega) (by omega) (S_X11_shaded (v := τ 1) ⟨⟨w, k⟩, fun _ => ?_, fun n => absurd c n⟩) (S_X12_shaded ⟨by constructor <;> omega, fun _ => ?_, fun n => by omega⟩)
    · generalize hQ : (fun (r : Int) (s : Kmem) => r = 1 ∧ ∃ u, fX u σ ∧ s = kup (kup (kup u 0 1 (sSun (τ 1) 12 / (Int.gcd (sSun (τ 1) 12) 12 : Int))) 0 2 (12 / (Int.gcd (sSun (τ 1) 12) 12 : Int))) 0 0 0) = Q
      refine kloopP (E := fun i (z : Int × Kmem) => E_X11_shaded_21 G z.1 i z.2 Q) (fun i z => z.1 = sSun (τ 1) i ∧ fX z.2 σ) 12 (fun i z hi hI ih => S_X11_shaded_21 ⟨by omega, fun q => ?_, fun q => ?_⟩) (τ := (0, σ)) ⟨rfl, fX.refl⟩
      · obtain ⟨i1, i2⟩ := hI
        rw [i1, show i = 12 by omega]
        exact Run.mono (P_X11_tellFraction (by omega) (by omega)) (fun r s e => by rw [← hQ]; exact ⟨rfl, z.2, i2, by rw [e.2]⟩)
      · obtain ⟨i1, i2⟩ := hI
        have hr := sHad_r (h := i) w
        refine Run.mono (P_X8_look (v := τ 1) isC_5 ⟨w, fX_co i2 w k, by constructor <;> omega⟩) (fun r s e => ?_)
        obtain ⟨-, e1, e2, e3, e4⟩ := e
        refine Run.mono (P_X8_ownedFields (v := τ 1) (h := i) ⟨w, e4⟩) (fun r2 s2 f => ?_)
        rw [f.1, f.2]
        refine ⟨by constructor <;> omega, ih (by omega) (z.1 + sHad (τ 1) i, s) ⟨?_, (fX_sky e1).trans i2⟩⟩
        show z.1 + sHad (τ 1) i = _
        rw [i1]; rfl
    · generalize hQ : (fun (r : Int) (t : Kmem) => r = 1 ∧ ∃ u, fM u τ ∧ t = kup (kup (kup u 0 3 (sSun (τ 1) 12 / (Int.gcd (sSun (τ 1) 12) 12 : Int))) 0 4 (12 / (Int.gcd (sSun (τ 1) 12) 12 : Int))) 0 2 0) = Q
      refine kloop (E := fun i z => E_X12_shaded_18 G' z i τ Q) (fun i => sSun (τ 1) i) 12 (fun i hi ih => S_X12_shaded_18 ⟨by omega, fun q => ?_, fun q => ⟨⟨w, by decide, by omega⟩, ?_⟩⟩)
      · have si := sSun_r w i
        rw [show i = 12 by omega] at si ⊢
        exact ⟨by constructor <;> omega, Run.mono (P_X12_tellsBy (by omega) (by omega)) (fun r s e => ⟨Or.inr e.1, by rw [← hQ]; exact ⟨e.1, τ, fM.refl, e.2⟩⟩)⟩
      · rw [← sHad_est w]; exact ih (by omega)
  · have z : τ 1 0 = 0 := by omega
    refine Op_pure 0 6 h (by decide) (S_X11_shaded (v := τ 1) ⟨⟨w, k⟩, fun n => absurd n c, fun _ => ⟨rfl, fX.refl⟩⟩) (S_X12_shaded ⟨by constructor <;> omega, fun n => absurd (by rw [z]; omega) n, fun _ => ⟨by decide, kb_0 (by decide), fM.refl⟩⟩)
