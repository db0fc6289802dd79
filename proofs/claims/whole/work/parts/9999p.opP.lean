/-! mean: the same seasons by so many seeds -/
noncomputable def mT (τ : Kmem) (seed : Int) : Nat → Kmem
  | 0 => kst τ 1 (sKeep (τ 1) 2570)
  | i + 1 => kst (sRun 300 0 (sBeg (mT τ seed i) (seed + i))) 1 (sRest ((sRun 300 0 (sBeg (mT τ seed i) (seed + i))) 1) 2570)
noncomputable def mS (τ : Kmem) (kite seed : Int) : Nat → Int
  | 0 => 0
  | i + 1 => mS τ kite seed i + (sRun 300 0 (sBeg (mT τ seed i) (seed + i))) 1 (34 + 9 * kite + 5)
theorem pEq_keep {v : Int → Int} : pEq (sKeep v 2570) v := ⟨⟨keep_0 (by omega), keep_0 (by omega), keep_0 (by omega)⟩, fun j a b => keep_0 (by omega)⟩
theorem mT_ok {τ : Kmem} {seed : Int} (h1 : (wf (τ 1) ∧ pwf (τ 1) ∧ τ 1 7 ≤ 9999) ∧ 0 ≤ τ 1 8) (hl : lpR (τ 18)) (hs : 0 ≤ seed) : ∀ i : Nat, seed + i ≤ 20000 → mT τ seed i 1 = sKeep (τ 1) 2570 ∧ lpR (mT τ seed i 18) ∧ (∀ x, x ≠ 0 → x ≠ 1 → x ≠ 18 → x ≠ 19 → mT τ seed i x = τ x) ∧ ∀ j, j ≠ 35 → j ≠ 36 → mT τ seed i 0 j = τ 0 j
  | 0, _ => by
    show (kst τ 1 (sKeep (τ 1) 2570)) 1 = _ ∧ lpR ((kst τ 1 (sKeep (τ 1) 2570)) 18) ∧ (∀ x, x ≠ 0 → x ≠ 1 → x ≠ 18 → x ≠ 19 → (kst τ 1 (sKeep (τ 1) 2570)) x = τ x) ∧ ∀ j, j ≠ 35 → j ≠ 36 → (kst τ 1 (sKeep (τ 1) 2570)) 0 j = τ 0 j
    exact ⟨kst_eq, by rw [kst_ne (by omega)]; exact hl, fun x a b c d => kst_ne b, fun j a b => by rw [kst_ne (by omega)]⟩
  | i + 1, hi => by
    obtain ⟨a1, a2, a3, a4⟩ := mT_ok h1 hl hs i (by omega)
    have e0 := keep_0 (v := τ 1) (to := 2570) (j := 7) (by omega)
    have e8 := keep_0 (v := τ 1) (to := 2570) (j := 8) (by omega)
    have bp : (wf (mT τ seed i 1) ∧ pwf (mT τ seed i 1) ∧ mT τ seed i 1 7 ≤ 9999) ∧ 0 ≤ mT τ seed i 1 8 ∧ (0 ≤ seed + i ∧ seed + i ≤ 65535) ∧ lpR (mT τ seed i 18) := by
      rw [a1, e0, e8]
      exact ⟨⟨wf_keep h1.1.1 (by omega), pwf_eq pEq_keep h1.1.2.1, h1.1.2.2⟩, h1.2, by omega, a2⟩
    have bl := sBeg_lv bp
    have bf := sBeg_f (σ := mT τ seed i) (seed := seed + i)
    have ok := sRun_ok 300 0 _ bl.1 (Or.inl bf.2)
    have lf := ok.2.1.trans bf.1
    obtain ⟨f1, f2, f3, f4⟩ := lf
    rw [a1] at f3
    show (kst (sRun 300 0 (sBeg (mT τ seed i) (seed + i))) 1 (sRest ((sRun 300 0 (sBeg (mT τ seed i) (seed + i))) 1) 2570)) 1 = _ ∧ lpR ((kst (sRun 300 0 (sBeg (mT τ seed i) (seed + i))) 1 (sRest ((sRun 300 0 (sBeg (mT τ seed i) (seed + i))) 1) 2570)) 18) ∧ (∀ x, x ≠ 0 → x ≠ 1 → x ≠ 18 → x ≠ 19 → (kst (sRun 300 0 (sBeg (mT τ seed i) (seed + i))) 1 (sRest ((sRun 300 0 (sBeg (mT τ seed i) (seed + i))) 1) 2570)) x = τ x) ∧ ∀ j, j ≠ 35 → j ≠ 36 → (kst (sRun 300 0 (sBeg (mT τ seed i) (seed + i))) 1 (sRest ((sRun 300 0 (sBeg (mT τ seed i) (seed + i))) 1) 2570)) 0 j = τ 0 j
    exact ⟨by rw [kst_eq, sRest_keep f3 (by omega)], by rw [kst_ne (by omega)]; exact ok.2.2.1, fun x a b c d => by rw [kst_ne b]; exact (f1 x a b c d).trans (a3 x a b c d), fun j a b => by rw [kst_ne (by omega)]; exact (f2 j a b).trans (a4 j a b)⟩
theorem mT_bp {τ : Kmem} {seed : Int} (h1 : (wf (τ 1) ∧ pwf (τ 1) ∧ τ 1 7 ≤ 9999) ∧ 0 ≤ τ 1 8) (hl : lpR (τ 18)) (hs : 0 ≤ seed) (i : Nat) (hi : seed + i ≤ 20000) : ((wf (mT τ seed i 1) ∧ pwf (mT τ seed i 1) ∧ mT τ seed i 1 7 ≤ 9999) ∧ 0 ≤ mT τ seed i 1 8 ∧ (0 ≤ seed + i ∧ seed + i ≤ 65535) ∧ lpR (mT τ seed i 18)) ∧ (wf (sRun 300 0 (sBeg (mT τ seed i) (seed + i)) 1) ∧ sRun 300 0 (sBeg (mT τ seed i) (seed + i)) 1 2 = τ 1 2) := by
  obtain ⟨a1, a2, a3, a4⟩ := mT_ok h1 hl hs i hi
  have e0 := keep_0 (v := τ 1) (to := 2570) (j := 7) (by omega)
  have e2 := keep_0 (v := τ 1) (to := 2570) (j := 2) (by omega)
  have e8 := keep_0 (v := τ 1) (to := 2570) (j := 8) (by omega)
  have bp : (wf (mT τ seed i 1) ∧ pwf (mT τ seed i 1) ∧ mT τ seed i 1 7 ≤ 9999) ∧ 0 ≤ mT τ seed i 1 8 ∧ (0 ≤ seed + i ∧ seed + i ≤ 65535) ∧ lpR (mT τ seed i 18) := by
    rw [a1, e0, e8]
    exact ⟨⟨wf_keep h1.1.1 (by omega), pwf_eq pEq_keep h1.1.2.1, h1.1.2.2⟩, h1.2, by omega, a2⟩
  have bl := sBeg_lv bp
  have bf := sBeg_f (σ := mT τ seed i) (seed := seed + i)
  have ok := sRun_ok 300 0 _ bl.1 (Or.inl bf.2)
  have lf := ok.2.1.trans bf.1
  exact ⟨bp, ok.1.1, by rw [lf.2.2.2.1.2.1, a1, e2]⟩
theorem mS_r {τ : Kmem} {kite seed : Int} (h1 : (wf (τ 1) ∧ pwf (τ 1) ∧ τ 1 7 ≤ 9999) ∧ 0 ≤ τ 1 8) (hl : lpR (τ 18)) (hs : 0 ≤ seed) (hk : sKt (τ 1) kite) : ∀ i : Nat, seed + i ≤ 20000 → 0 ≤ mS τ kite seed i ∧ mS τ kite seed i ≤ 9999 * i
  | 0, _ => by show 0 ≤ (0 : Int) ∧ (0 : Int) ≤ 9999 * 0; omega
  | i + 1, hi => by
    have ih := mS_r h1 hl hs hk i (by omega)
    obtain ⟨-, w, e2⟩ := mT_bp h1 hl hs i (by omega)
    have wk := w.2.2.1 kite hk.1 (by rw [e2]; exact hk.2)
    show 0 ≤ mS τ kite seed i + _ ∧ mS τ kite seed i + _ ≤ _
    omega
theorem O_mean {G G' : Kg} {σ τ : Kmem} {l1 l2 l3 : Int} (h : R σ τ) (r1 : rI l1) (r2 : rI l2) (r3 : rI l3) : Op G G' M_X11_mean M_X12_mean 7 12 [vA G 0, vI l1, vI l2, vI l3] [vA G' 0, vI l1, vI l2, vI l3] σ τ := by
  obtain ⟨w, k⟩ := R_w h
  have w1 := wf_h w
  have pr := h.1.2.2.1
  have pw := h.1.1.2.1
  have p8 := pw.1
  have hl := h.2.2.2.2.2.2.2.2.2
  by_cases c : sKt (τ 1) l1 ∧ 0 ≤ l2 ∧ (1 ≤ l3 ∧ l3 ≤ 20) ∧ l2 + l3 ≤ 10000
  · obtain ⟨c1, c2, c3, c4⟩ := c
    have c1' := c1.1
    have c1'' := c1.2
    by_cases d : τ 1 8 = -1
    · have s0 := pr.2.1.2 d
      refine Op_pure 0 6 h (by decide) (S_X11_mean (v := τ 1) ?_) (S_X12_mean ?_)
      · rw [s0]
        all_goals (repeat' (with_reducible first | assumption | intro _ | refine And.intro ?_ ?_))
        all_goals (first | omega | contradiction | rfl | exact fX.refl | exact fM.refl | exact kb_0 (by decide) | exact kb_1 rfl | trivial | skip)
      · rw [d]
        all_goals (repeat' (with_reducible first | assumption | intro _ | refine And.intro ?_ ?_))
        all_goals (first | omega | contradiction | rfl | exact fX.refl | exact fM.refl | exact kb_0 (by decide) | exact kb_1 rfl | trivial | skip)
    · have s0 : σ 64 0 ≠ 0 := fun n => d (pr.2.1.1 n)
      have s1 : σ 64 0 = 1 := pr.1.1.resolve_left s0
      have h1 : (wf (τ 1) ∧ pwf (τ 1) ∧ τ 1 7 ≤ 9999) ∧ 0 ≤ τ 1 8 := ⟨h.1.1, by omega⟩
      have sr := fun i : Nat => mS_r (kite := l1) (seed := l2) h1 hl c2 c1 i
      have sN := sr l3.toNat (by omega)
      refine Op_frac (n := mS τ l1 l2 l3.toNat) (m := l3) h (by omega) (by omega) (S_X11_mean (v := τ 1) ?_) (S_X12_mean ?_)
      · rw [s1]
        refine ⟨⟨w, k, r1⟩, fun n => absurd c1 n, fun _ => ⟨r2, fun q => by omega, fun _ => ⟨r3, fun q => by omega, fun _ => ⟨fun q => by omega, fun _ => ⟨by constructor <;> omega, fun _ => ⟨by decide, fun _ => ?_, fun n => absurd n (by decide)⟩, fun q => by omega⟩⟩⟩⟩⟩
        generalize hQ : (fun (r : Int) (s : Kmem) => r = 1 ∧ ∃ u, fX u σ ∧ s = kup (kup (kup u 0 1 (mS τ l1 l2 l3.toNat / (Int.gcd (mS τ l1 l2 l3.toNat) l3 : Int))) 0 2 (l3 / (Int.gcd (mS τ l1 l2 l3.toNat) l3 : Int))) 0 0 0) = Q
        refine kloopP (E := fun i (z : Int × Kmem) => E_X11_mean_64 G l1 l2 l3 z.1 i z.2 Q) (fun i z => z.1 = mS τ l1 l2 i ∧ fX z.2 σ) l3.toNat (fun i z hi hI ih => S_X11_mean_64 ⟨by omega, by omega, fun q => ?_, fun q => ?_⟩) (τ := (0, σ)) ⟨rfl, fX.refl⟩
        · obtain ⟨i1, i2⟩ := hI
          rw [i1, show i = l3.toNat by omega]
          exact Run.mono (P_X11_tellFraction (by omega) (by omega)) (fun r s e => by rw [← hQ]; exact ⟨rfl, z.2, i2, by rw [e.2]⟩)
        · obtain ⟨i1, i2⟩ := hI
          have si := sr i (by omega)
          obtain ⟨bp, wT, e2⟩ := mT_bp h1 hl c2 i (by omega)
          have mt := (mT_ok h1 hl c2 i (by omega)).1
          refine Run.mono (P_X0_copy (v := τ 1) isC_31 isC_5 ⟨by decide, w, fX_co i2 w k⟩) (fun r s e => ?_)
          obtain ⟨-, f1, f2, -⟩ := e
          have fr : fX s σ := (fX_c31 f1).trans i2
          have pr2 : kpr s 64 (τ 1) := kpr_kfm (A := scX) pr fr.1 (fun x a b q => by unfold scX at q; omega)
          refine Run.mono (P_X4_run (M := mT τ l2 i) (seed := l2 + i) isLf_80 isS_64 isC_31 ⟨bp.1, bp.2.1, bp.2.2.1, bp.2.2.2, by rw [mt]; exact kco_keep w f2 (by omega), by rw [mt]; exact kpr_eq pr2 pEq_keep p8.2⟩) (fun r2 s2 g => ?_)
          obtain ⟨-, g1, g2⟩ := g
          have K := (g2.1.1.2.2.1 l1 c1' (by rw [e2]; exact c1'')).2.1.2.2
          have wk := wT.2.2.1 l1 c1' (by rw [e2]; exact c1'')
          rw [K]
          refine ⟨by omega, by constructor <;> omega, ih (by omega) (z.1 + _, s2) ⟨?_, (fX_of g1 (fun x q => by unfold scX; rcases q with q | q | q | q; have z1 := q.1; have z2 := q.2; omega; omega; omega; omega)).trans fr⟩⟩
          show z.1 + _ = _
          rw [i1]; rfl
      · refine ⟨⟨r1, w⟩, fun n => absurd c1 n, fun _ => ⟨r2, ⟨by constructor <;> omega, by decide, by decide⟩, fun n => by omega, fun _ => ⟨r3, ⟨by constructor <;> omega, by decide, by decide⟩, fun n => by omega, fun _ => ⟨by constructor <;> omega, fun _ => ⟨by constructor <;> omega, fun _ => ⟨by omega, ?_⟩, fun n => absurd n d⟩, fun q => by omega⟩⟩⟩⟩
        generalize hQ : (fun (r : Int) (t : Kmem) => r = 1 ∧ ∃ u, fM u τ ∧ t = kup (kup (kup u 0 3 (mS τ l1 l2 l3.toNat / (Int.gcd (mS τ l1 l2 l3.toNat) l3 : Int))) 0 4 (l3 / (Int.gcd (mS τ l1 l2 l3.toNat) l3 : Int))) 0 2 0) = Q
        refine kloopP (E := fun i (z : Int × Kmem) => E_X12_mean_80 G' l1 l2 l3 z.1 i z.2 Q) (fun i z => z.1 = mS τ l1 l2 i ∧ z.2 = mT τ l2 i) l3.toNat (fun i z hi hI ih => S_X12_mean_80 ⟨by omega, by omega, fun q => ?_, fun q => ?_⟩) (τ := (0, kst τ 1 (sKeep (τ 1) 2570))) ⟨rfl, rfl⟩
        · obtain ⟨i1, i2⟩ := hI
          rw [i1, i2]
          have mt := mT_ok h1 hl c2 i (by omega)
          rw [show i = l3.toNat by omega] at mt ⊢
          refine Run.mono (P_X12_tellsBy (by omega) (by omega)) (fun r s e => ⟨Or.inr e.1, by rw [← hQ]; exact ⟨e.1, mT τ l2 l3.toNat, ⟨fun j a b => by rw [mt.1]; exact keep_0 (by omega), fun x a => mt.2.2.1 x (fun z => a (by unfold scM; omega)) (fun z => a (by unfold scM; omega)) (fun z => a (by unfold scM; omega)) (fun z => a (by unfold scM; omega)), fun j a => mt.2.2.2 j (by unfold fkM at a; omega) (by unfold fkM at a; omega), fun _ => mt.2.1⟩, e.2⟩⟩)
        · obtain ⟨i1, i2⟩ := hI
          have si := sr i (by omega)
          obtain ⟨bp, wT, e2⟩ := mT_bp h1 hl c2 i (by omega)
          have wk := wT.2.2.1 l1 c1' (by rw [e2]; exact c1'')
          rw [i2]
          refine ⟨bp, by omega, by constructor <;> omega, by omega, ih (by omega) (z.1 + _, _) ⟨?_, rfl⟩⟩
          show z.1 + _ = _
          rw [i1]; rfl
  · refine Op_pure 0 1 h (by decide) (S_X11_mean (v := τ 1) ?_) (S_X12_mean ?_)
    all_goals (repeat' (with_reducible first | assumption | intro _ | refine And.intro ?_ ?_))
    all_goals (first | omega | contradiction | rfl | exact fX.refl | exact fM.refl | exact kb_0 (by decide) | exact kb_1 rfl | trivial | skip)
/-! marks -/
theorem nm_cpd {s σ : Kmem} {c d o n m b : Int} {f : Int → Int} (h : nmB σ (d + o) n f b) (p : cpd s σ c d o m n) (hm : 0 < m) : nmB s (c + o) n f b := by
  intro k a e
  rw [p k a e 0 (by omega) hm]; exact h k a e
theorem O_mark {G G' : Kg} {σ τ : Kmem} (h : R σ τ) : Op G G' M_X11_mark M_X12_mark 2 1 [vA G 0] [vA G' 0] σ τ := by
  obtain ⟨w, k⟩ := R_w h
  have w1 := wf_h w
  have hh := h
  obtain ⟨h1, h2, h3, h4, h5, h6, h7, h8, h9, h10⟩ := hh
  obtain ⟨⟨m1, m2, m3⟩, m4⟩ := h2
  by_cases c : τ 0 41 = 3
  · refine Op_pure (-1) 4 h (by decide) (S_X11_mark ?_) (S_X12_mark ?_)
    · rw [m1, c]
      all_goals (repeat' (with_reducible first | assumption | intro _ | refine And.intro ?_ ?_))
      all_goals (first | omega | contradiction | rfl | exact fX.refl | exact fM.refl | exact kb_0 (by decide) | exact kb_1 rfl | trivial | skip)
    · rw [c]
      all_goals (repeat' (with_reducible first | assumption | intro _ | refine And.intro ?_ ?_))
      all_goals (first | omega | contradiction | rfl | exact fX.refl | exact fM.refl | exact kb_0 (by decide) | exact kb_1 rfl | trivial | skip)
  · generalize hm : τ 0 41 = m at *
    have q := adC_r (m := m) ⟨m2, by omega⟩
    have mm : 0 ≤ m ∧ m < 3 := ⟨m2, by omega⟩
    refine ⟨_, _, S_X11_mark (Q := fun r s => r = m + 1 ∧ ∃ u, s = kup (kup u 0 18 (m + 1)) 0 0 0 ∧ (∀ x, ¬ (adC m ≤ x ∧ x < adC m + 26) → ¬ (adS m ≤ x ∧ x < adS m + 7) → u x = σ x) ∧ rCt u (adC m) (adS m) (τ 1) (τ 2)) ?_, S_X12_mark (Q := fun r t => r = m + 1 ∧ t = kup (tCp (kup τ 0 41 (m + 1)) (m + 1) 0) 0 2 0) ?_, fun r s r' t x y => ?_⟩
    · rw [m1]
      refine ⟨by constructor <;> omega, fun _ => ⟨mm, ?_⟩, fun n => absurd n c⟩
      refine Run.mono (P_X0_copy (v := τ 1) (adC_is mm) isC_5 ⟨by omega, w, k⟩) (fun r s e => ?_)
      obtain ⟨-, e1, e2, e3, e4, -⟩ := e
      have s18 : s 0 18 = m := by rw [e1 0 (by intro z; have := z.1; omega)]; exact m1
      rw [s18]
      refine ⟨mm, ?_⟩
      have pr : kpr s 64 (τ 1) := kpr_kfm h1.2.2.1 e1 (fun x a b z => by have := z.1; omega)
      refine Run.mono (P_X7_copy (adS_is mm) isS_64 ⟨by omega, pr⟩) (fun r2 s2 f => ?_)
      obtain ⟨-, f1, f2, -⟩ := f
      have s18' : s2 0 18 = m := by rw [f1 0 (by intro z; have := z.1; omega)]; exact s18
      rw [s18', kup_at]
      have na := nm_cpd h1.2.2.2.1 e3 (by omega)
      have nb := nm_cpd h1.2.2.2.2 e4 (by omega)
      refine ⟨rfl, s2, rfl, fun x a b => by rw [f1 x b, e1 x a], h1.1, kco_kfm w e2 f1 (fun x a b z => by have := z.1; omega), f2, nmB_fr na (fun i a b => f1 _ (by intro z; have := z.1; omega)), nmB_fr nb (fun i a b => f1 _ (by intro z; have := z.1; omega))⟩
    · rw [hm, kup_at]
      refine ⟨by constructor <;> omega, fun _ => ⟨by omega, ?_, rfl⟩, fun n => absurd n c⟩
      unfold tCp
      rw [kst_ne (by omega), kst_ne (by omega), kup_at]
    · obtain ⟨x1, u, rfl, u1, u2⟩ := x
      obtain ⟨y1, rfl⟩ := y
      refine ⟨by rw [x1, y1], R_st ?_ (by decide)⟩
      have ux : ∀ z, z ≠ 0 → (kup u 0 18 (m + 1)) z = u z := fun z a => kup_o a
      have u0 : ∀ j, j ≠ 18 → (kup u 0 18 (m + 1)) 0 j = σ 0 j := fun j a => by rw [kup_j a, u1 0 (by omega) (by omega)]
      have us : ∀ z, z < 106 → u z = σ z := fun z a => u1 z (by omega) (by omega)
      have usx : ∀ z, z ≠ 0 → z < 106 → (kup u 0 18 (m + 1)) z = σ z := fun z a b => by rw [ux z a, us z b]
      have t0 : ∀ j, j ≠ 41 → (tCp (kup τ 0 41 (m + 1)) (m + 1) 0) 0 j = τ 0 j := fun j a => by unfold tCp; rw [kst_ne (by omega), kst_ne (by omega), kup_j a]
      have t41 : (tCp (kup τ 0 41 (m + 1)) (m + 1) 0) 0 41 = m + 1 := by unfold tCp; rw [kst_ne (by omega), kst_ne (by omega), kup_at]
      have tx : ∀ z, z ≠ 0 → z ≠ 1 → z ≠ 2 → (tCp (kup τ 0 41 (m + 1)) (m + 1) 0) z = τ z := fun z a b d => by unfold tCp; rw [kst_ne d, kst_ne b, kup_o a]
      have t1 : ∀ j, (tCp (kup τ 0 41 (m + 1)) (m + 1) 0) 1 j = if 514 * (m + 1) ≤ j ∧ j < 514 * (m + 1) + 514 then τ 1 (514 * 0 + (j - 514 * (m + 1))) else τ 1 j := fun j => by unfold tCp; rw [kst_ne (by omega), kst_eq, kup_o (by omega)]; rfl
      have t2 : ∀ j, (tCp (kup τ 0 41 (m + 1)) (m + 1) 0) 2 j = if 20 * (m + 1) ≤ j ∧ j < 20 * (m + 1) + 20 then τ 2 (20 * 0 + (j - 20 * (m + 1))) else τ 2 j := fun j => by unfold tCp; rw [kst_eq, kup_o (by omega)]; rfl
      refine ⟨kCt h1 (fun x a b => usx x (by omega) (by omega)) (fun x a b => usx x (by omega) (by omega)) (fun j a b => by rw [t1, if_neg (by omega)]) (fun j a b => by rw [t2, if_neg (by omega)]), ⟨⟨by rw [kup_at, t41], by rw [t41]; omega, by rw [t41]; omega⟩, fun m' a b => ?_⟩, kSt h3 ⟨u0 0 (by omega), u0 1 (by omega), u0 2 (by omega)⟩ ⟨t0 2 (by omega), t0 3 (by omega), t0 4 (by omega)⟩, kTp h4 ⟨u0 5 (by omega), usx 2 (by omega) (by omega)⟩ ⟨t0 10 (by omega), tx 6 (by omega) (by omega) (by omega), tx 7 (by omega) (by omega) (by omega)⟩, kFa h5 (usx 3 (by omega) (by omega)) ⟨t0 16 (by omega), t0 17 (by omega)⟩, kTr h6 (fun x a b => usx x (by omega) (by omega)) ⟨tx 3 (by omega) (by omega) (by omega), tx 4 (by omega) (by omega) (by omega), tx 5 (by omega) (by omega) (by omega)⟩, kFl h7 ⟨by rw [usx 82 (by omega) (by omega)], usx 84 (by omega) (by omega)⟩ ⟨t0 26 (by omega), tx 10 (by omega) (by omega) (by omega)⟩, kLv h8 (usx 78 (by omega) (by omega)) ⟨t0 40 (by omega), tx 20 (by omega) (by omega) (by omega)⟩, fun j a b => ?_, ?_⟩
      · rw [t41] at b
        by_cases e : m' = m
        · subst e
          refine rCt_eq (rCt_fr u2 (fun x a b => ux x (by omega)) (fun x a b => ux x (by omega))) (fun j a b => ?_) (fun j a b => ?_)
          · unfold rMk; rw [t1, if_pos (by omega)]; congr 1; omega
          · unfold rMn; rw [t2, if_pos (by omega)]; congr 1; omega
        · have q' := adC_r (m := m') ⟨a, by omega⟩
          refine rCt_eq (rCt_fr (m4 m' a (by omega)) (fun x c d => by rw [ux x (by omega), u1 x (by omega) (by omega)]) (fun x c d => by rw [ux x (by omega), u1 x (by omega) (by omega)])) (fun j c d => ?_) (fun j c d => ?_)
          · unfold rMk; rw [t1, if_neg (by omega)]
          · unfold rMn; rw [t2, if_neg (by omega)]
      · rw [t2]; split
        · exact h9 _ (by omega) (by omega)
        · exact h9 j a b
      · rw [tx 18 (by omega) (by omega) (by omega)]; exact h10
theorem O_undo {G G' : Kg} {σ τ : Kmem} (h : R σ τ) : Op G G' M_X11_undo M_X12_undo 2 1 [vA G 0] [vA G' 0] σ τ := by
  obtain ⟨w, k⟩ := R_w h
  have hh := h
  obtain ⟨h1, h2, h3, h4, h5, h6, h7, h8, h9, h10⟩ := hh
  obtain ⟨⟨m1, m2, m3⟩, m4⟩ := h2
  by_cases c : τ 0 41 = 0
  · refine Op_pure (-1) 6 h (by decide) (S_X11_undo ?_) (S_X12_undo ?_)
    · rw [m1, c]
      all_goals (repeat' (with_reducible first | assumption | intro _ | refine And.intro ?_ ?_))
      all_goals (first | omega | contradiction | rfl | exact fX.refl | exact fM.refl | exact kb_0 (by decide) | exact kb_1 rfl | trivial | skip)
    · rw [c]
      all_goals (repeat' (with_reducible first | assumption | intro _ | refine And.intro ?_ ?_))
      all_goals (first | omega | contradiction | rfl | exact fX.refl | exact fM.refl | exact kb_0 (by decide) | exact kb_1 rfl | trivial | skip)
  · generalize hm : τ 0 41 = m at *
    have mm : 0 ≤ m - 1 ∧ m - 1 < 3 := by omega
    have q := adC_r (m := m - 1) mm
    have M := m4 (m - 1) mm.1 (by omega)
    have wM := M.1.1
    have w1 := wf_h wM
    refine ⟨_, _, S_X11_undo (Q := fun r s => r = m - 1 ∧ ∃ u, s = kup u 0 0 0 ∧ (∀ x, x ≠ 0 → ¬ (5 ≤ x ∧ x < 31) → ¬ (64 ≤ x ∧ x < 71) → u x = σ x) ∧ (∀ j, j ≠ 18 → u 0 j = σ 0 j) ∧ u 0 18 = m - 1 ∧ rCt u 5 64 (rMk τ (m - 1)) (rMn τ (m - 1))) ?_, S_X12_undo (Q := fun r t => r = m - 1 ∧ t = kup (kup (tCp τ 0 m) 0 41 (m - 1)) 0 2 0) ?_, fun r s r' t x y => ?_⟩
    · rw [m1, kup_at]
      refine ⟨by constructor <;> omega, fun _ => ⟨mm, ?_⟩, fun n => absurd n c⟩
      have F : kfm (fun x => x = 0) (kup σ 0 18 (m - 1)) σ := kfm_at
      have M' : rCt (kup σ 0 18 (m - 1)) (adC (m - 1)) (adS (m - 1)) (rMk τ (m - 1)) (rMn τ (m - 1)) := rCt_fr M (fun x a b => kup_o (by omega)) (fun x a b => kup_o (by omega))
      refine Run.mono (P_X0_copy (v := rMk τ (m - 1)) isC_5 (adC_is mm) ⟨by omega, wM, M'.2.1⟩) (fun r s e => ?_)
      obtain ⟨-, e1, e2, e3, e4, -⟩ := e
      have s0 : s 0 = (kup σ 0 18 (m - 1)) 0 := e1 0 (by intro z; have := z.1; omega)
      have s18 : s 0 18 = m - 1 := by rw [s0, kup_at]
      rw [s18]
      refine ⟨mm, ?_⟩
      have pr : kpr s (adS (m - 1)) (rMk τ (m - 1)) := kpr_kfm M'.2.2.1 e1 (fun x a b z => by have := z.2; omega)
      refine Run.mono (P_X7_copy isS_64 (adS_is mm) ⟨by omega, pr⟩) (fun r2 s2 f => ?_)
      obtain ⟨-, f1, f2, -⟩ := f
      have f0 : s2 0 = s 0 := f1 0 (by intro z; have := z.1; omega)
      have na := nm_cpd M'.2.2.2.1 e3 (by omega)
      have nb := nm_cpd M'.2.2.2.2 e4 (by omega)
      rw [f0, s18]
      refine ⟨rfl, s2, rfl, fun x a b d => ?_, fun j a => by rw [f0, s0]; exact kup_j a, by rw [f0]; exact s18, M.1, kco_kfm wM e2 f1 (fun x a b z => by have := z.1; omega), f2, nmB_fr na (fun i a b => f1 _ (by intro z; have := z.1; omega)), nmB_fr nb (fun i a b => f1 _ (by intro z; have := z.1; omega))⟩
      rw [f1 x (by intro z; exact d ⟨z.1, by have := z.2; omega⟩), e1 x b]; exact kup_o a
    · rw [hm]
      have e : (tCp τ 0 m) 0 41 = m := by unfold tCp; rw [kst_ne (by omega), kst_ne (by omega)]; exact hm
      rw [e, kup_at]
      exact ⟨by constructor <;> omega, fun _ => ⟨by omega, rfl, rfl⟩, fun n => absurd n c⟩
    · obtain ⟨x1, u, rfl, u1, u0, u18, u2⟩ := x
      obtain ⟨y1, rfl⟩ := y
      refine ⟨by rw [x1, y1], R_st ?_ (by decide)⟩
      have t0 : ∀ j, j ≠ 41 → (kup (tCp τ 0 m) 0 41 (m - 1)) 0 j = τ 0 j := fun j a => by rw [kup_j a]; unfold tCp; rw [kst_ne (by omega), kst_ne (by omega)]
      have t41 : (kup (tCp τ 0 m) 0 41 (m - 1)) 0 41 = m - 1 := kup_at
      have tx : ∀ z, z ≠ 0 → z ≠ 1 → z ≠ 2 → (kup (tCp τ 0 m) 0 41 (m - 1)) z = τ z := fun z a b d => by rw [kup_o a]; unfold tCp; rw [kst_ne d, kst_ne b]
      have t1 : ∀ j, (kup (tCp τ 0 m) 0 41 (m - 1)) 1 j = if 514 * 0 ≤ j ∧ j < 514 * 0 + 514 then τ 1 (514 * m + (j - 514 * 0)) else τ 1 j := fun j => by rw [kup_o (by omega)]; unfold tCp; rw [kst_ne (by omega), kst_eq]; rfl
      have t2 : ∀ j, (kup (tCp τ 0 m) 0 41 (m - 1)) 2 j = if 20 * 0 ≤ j ∧ j < 20 * 0 + 20 then τ 2 (20 * m + (j - 20 * 0)) else τ 2 j := fun j => by rw [kup_o (by omega)]; unfold tCp; rw [kst_eq]; rfl
      refine ⟨rCt_eq u2 (fun j a b => ?_) (fun j a b => ?_), ⟨⟨by rw [u18, t41], by rw [t41]; omega, by rw [t41]; omega⟩, fun m' a b => ?_⟩, kSt h3 ⟨u0 0 (by omega), u0 1 (by omega), u0 2 (by omega)⟩ ⟨t0 2 (by omega), t0 3 (by omega), t0 4 (by omega)⟩, kTp h4 ⟨u0 5 (by omega), u1 2 (by omega) (by omega) (by omega)⟩ ⟨t0 10 (by omega), tx 6 (by omega) (by omega) (by omega), tx 7 (by omega) (by omega) (by omega)⟩, kFa h5 (u1 3 (by omega) (by omega) (by omega)) ⟨t0 16 (by omega), t0 17 (by omega)⟩, kTr h6 (fun x a b => u1 x (by omega) (by omega) (by omega)) ⟨tx 3 (by omega) (by omega) (by omega), tx 4 (by omega) (by omega) (by omega), tx 5 (by omega) (by omega) (by omega)⟩, kFl h7 ⟨by rw [u1 82 (by omega) (by omega) (by omega)], u1 84 (by omega) (by omega) (by omega)⟩ ⟨t0 26 (by omega), tx 10 (by omega) (by omega) (by omega)⟩, kLv h8 (u1 78 (by omega) (by omega) (by omega)) ⟨t0 40 (by omega), tx 20 (by omega) (by omega) (by omega)⟩, fun j a b => ?_, ?_⟩
      · unfold rMk; rw [t1, if_pos (by omega)]; congr 1; omega
      · unfold rMn; rw [t2, if_pos (by omega)]; congr 1; omega
      · rw [t41] at b
        have q' := adC_r (m := m') ⟨a, by omega⟩
        refine rCt_eq (rCt_fr (m4 m' a (by omega)) (fun x c d => u1 x (by omega) (by omega) (by omega)) (fun x c d => u1 x (by omega) (by omega) (by omega))) (fun j c d => ?_) (fun j c d => ?_)
        · unfold rMk; rw [t1, if_neg (by omega)]
        · unfold rMn; rw [t2, if_neg (by omega)]
      · rw [t2]; split
        · exact h9 _ (by omega) (by omega)
        · exact h9 j a b
      · rw [tx 18 (by omega) (by omega) (by omega)]; exact h10
