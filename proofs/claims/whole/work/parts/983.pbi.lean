theorem wf_law' {v : Int → Int} {x : Int} (w : wf v) (hx : 0 ≤ x ∧ x ≤ 2) : wf (ku v 6 x) := by
  have w1 := wf_h w
  obtain ⟨a, b, c, d, e⟩ := w
  refine ⟨?_, fun k h1 h2 => ?_, fun k h1 h2 => ?_, fun k h1 h2 => ?_, fun k h1 h2 => ?_⟩
  · unfold wfH at *; simp (disch := omega) only [ku_ne, ku_eq]; omega
  · simp (disch := omega) only [ku_ne]; exact b k h1 h2
  · rw [ku_ne (by omega)] at h2; simp (disch := omega) only [ku_ne]; exact c k h1 h2
  · rw [ku_ne (by omega)] at h2; simp (disch := omega) only [ku_ne]; exact d k h1 h2
  · rw [ku_ne (by omega)] at h2; simp (disch := omega) only [ku_ne]; exact e k h1 h2
theorem P_X1_readLaw {G : Kg} {σ τ : Kmem} (h : tRs σ τ) (hy : tY σ (vN τ) (τ 2) (τ 0 20)) (t : tk1 τ) (w : wf (vN τ)) (hT : 0 ≤ τ 0 20 ∧ τ 0 20 < 16) : Run G WX M_X1_readLaw 3 0 0 [vA G 57] σ (fun y s => (τ 0 20 / 8 % 2 = 1 → xOk (False, tF τ 5) σ y s) ∧ (τ 0 20 / 8 % 2 ≠ 1 → xOk (cBody 3 (kup τ 0 20 (τ 0 20 + 8))) σ y s)) := by
  obtain ⟨k, nm, f2, f3⟩ := hy
  have w1 := wf_h w
  refine S_X1_readLaw ⟨by rw [f3]; constructor <;> omega, fun q => ?_, fun q => ⟨tRs_r2 h t.1, fun _ => ⟨(kb_0 (fun z => z)).symm, tRs_F h t, fun z => z.elim, fun x hx => xF_B.1 x (fun e => hx (Or.inl e))⟩, fun z => by omega⟩⟩
  have t2 : tk1 (kup τ 0 20 (τ 0 20 + 8)) := (tk1_20 t).1
  have B : cBody 3 (kup τ 0 20 (τ 0 20 + 8)) = cNum 2062 0 2 (tA (kup τ 0 20 (τ 0 20 + 8))) := rfl
  rw [B]
  have nvu : vN (tA (kup τ 0 20 (τ 0 20 + 8))) = vN τ := by rw [nv_tA, nv_20]
  have u2 : (tA (kup τ 0 20 (τ 0 20 + 8))) 2 = τ 2 := by rw [tA_fr.1 2 (by omega), kup_o (by omega)]
  have u20 := cap_20 (τ := τ) (y := τ 0 20 + 8)
  refine Run.mono (P_X6_next' (τ := kup τ 0 20 (τ 0 20 + 8)) (tRs_57 (tRs_20 h) (by omega)) t2.1) (fun r s e => ?_)
  obtain ⟨-, e2, e3⟩ := e
  have t3 := tA_k1 (tok_x0 t2.1) t2.2
  generalize tA (kup τ 0 20 (τ 0 20 + 8)) = u at *
  refine Run.mono (P_X6_takeNumber 2062 e2 t3 ⟨by decide, by decide⟩) (fun r4 s5 e => ?_)
  obtain ⟨e4, e5, e6, e7⟩ := e
  have fr : ∀ x, x ≠ 3 → x ≠ 57 → s5 x = σ x := fun x a b => by rw [e6.1 x a, e3.1 x a, kup_o b]
  refine ⟨r01 e4, fun z => ⟨fun z => by omega, fun _ => ?_⟩, fun z => ⟨fun z => by omega, fun _ => ?_⟩⟩
  · have y := yes e4 z
    have n := nv_num (i := 6) y (by omega)
    have G1 := cNum_G (to := 2062) (lo := 0) (hi := 2) t3 (by omega)
    rw [nvu] at n
    refine ⟨(kb_1 y).symm, tRs_57 e5 (by omega), fun _ => ⟨?_, nmY_to nm (by omega) (fun x a b => by rw [kup_o (by omega), fr x (by omega) (by omega)]) ⟨n.1 2 (by omega), n.1 3 (by omega), n.1 4 (by omega)⟩ (fun j a b => ?_), ?_, ?_⟩, fun x hx => by rw [kup_o (by omega), fr x (by omega) (by omega)]⟩
    · refine kco_ext (wf_law' w n.2) (v := ku (vN τ) 6 (vN (cNum 2062 0 2 u).2 6)) (fun j a b => ?_) ?_
      · by_cases q : j = 6
        · rw [q, ku_eq]
        · rw [ku_ne q]; exact n.1 j q
      · have : s5 3 7 = vN (cNum 2062 0 2 u).2 6 := e7 y ▸ (cNum_at y).symm
        rw [this]
        exact kco_law w (kco_kfm (A := j57) w k (fun x hx => fr x (fun e => hx (Or.inl e)) (fun e => hx (Or.inr e))) (fun x a b => by omega))
    · rw [(cNum_t y).2, tA_fr.1 2 (by omega), kup_o (by omega), u2]
    · rw [kup_o (x := 57) (by omega), e6.1 57 (by omega), e3.1 57 (by omega), kup_j (by omega), G1.1.2.1 20 (by omega), u20, f2]; omega
    · rw [kup_o (x := 57) (by omega), e6.1 57 (by omega), e3.1 57 (by omega), kup_at, G1.1.2.1 20 (by omega), u20]; omega
  · have y := no e4 z
    exact ⟨(kb_0 y).symm, e5, fun z => absurd z y, fun x hx => fr x (by omega) (by omega)⟩
theorem wf_wind2 {v : Int → Int} {t x y : Int} (w : wf v) (ht : 0 ≤ t ∧ t < 12) (hx : 0 ≤ x ∧ x ≤ 7) (hy : 0 ≤ y ∧ y ≤ 3) : wf (ku (ku v (10 + 2 * t) x) (10 + 2 * t + 1) y) := by
  have w1 := wf_h w
  obtain ⟨a, b, c, d, e⟩ := w
  refine ⟨?_, fun k h1 h2 => ?_, fun k h1 h2 => ?_, fun k h1 h2 => ?_, fun k h1 h2 => ?_⟩
  · unfold wfH at *; simp (disch := omega) only [ku_ne]; exact a
  · by_cases q : k = t
    · rw [q]; simp (disch := omega) only [ku_ne, ku_eq]; exact ⟨hx, hy⟩
    · simp (disch := omega) only [ku_ne]; exact b k h1 h2
  · rw [ku_ne (by omega), ku_ne (by omega)] at h2; simp (disch := omega) only [ku_ne]; exact c k h1 h2
  · rw [ku_ne (by omega), ku_ne (by omega)] at h2; simp (disch := omega) only [ku_ne]; exact d k h1 h2
  · rw [ku_ne (by omega), ku_ne (by omega)] at h2; simp (disch := omega) only [ku_ne]; exact e k h1 h2
theorem fT0_20 {s t : Kmem} (h : fT0 s t) : s 0 20 = t 0 20 := h.2.1 20 (by omega)
theorem P_X1_readWind {G : Kg} {σ u : Kmem} (h : tRs σ u) (hy : tY σ (vN u) (u 2) (u 0 20)) (t : tk1 u) (w : wf (vN u)) : Run G WX M_X1_readWind 3 0 0 [vA G 57] σ (fun y s => xOk (cWind u) σ y s) := by
  obtain ⟨k, nm, f2, f3⟩ := hy
  have w1 := wf_h w
  have bad : ∀ {r : Prop × Kmem} {s : Kmem}, ¬ r.1 → tRs s r.2 → kfm aR s σ → xOk r σ 0 s := fun a b c => ⟨(kb_0 a).symm, b, fun z => absurd z a, c⟩
  have t2 := tA_k1 (tok_x0 t.1) t.2
  have fA : fT0 (tA u) u := fT0_tA
  refine S_X1_readWind (Run.mono (P_X6_next' h t.1) (fun r s e => ?_))
  obtain ⟨-, e2, e3⟩ := e
  have nA : vN (tA u) = vN u := nv_tA
  have A2 : (tA u) 2 = u 2 := tA_fr.1 2 (by omega)
  unfold cWind
  generalize tA u = a at *
  refine Run.mono (P_X6_takeNumber 2566 e2 t2 ⟨by decide, by decide⟩) (fun r4 s5 e => ?_)
  obtain ⟨e4, e5, e6, e7⟩ := e
  have fr1 : ∀ x, x ≠ 3 → s5 x = σ x := fun x q => by rw [e6.1 x q, e3.1 x q]
  refine ⟨r01 e4, fun z => ?_, fun z => ?_⟩
  rotate_left
  · have y := no e4 z
    rw [cThen_f y]
    exact bad (fun z => z) e5 (fun x hx => fr1 x (by omega))
  have y1 := yes e4 z
  rw [cThen_t y1]
  have g1 := cNum_G (to := 2566) (lo := 0) (hi := 11) t2 (by omega)
  have n1 := nv_num (i := 510) y1 (by omega)
  have m1 := e7 y1
  rw [← cNum_at y1] at m1
  have t3 := g1.2.1 y1
  have c2 : (cNum 2566 0 11 a).2 2 = u 2 := by rw [(cNum_t y1).2, tA_fr.1 2 (by omega), kup_o (by omega), A2]
  have q510 : (cNum 2566 0 11 a).2 1 2566 = vN (cNum 2566 0 11 a).2 510 := rfl
  have F1 := fT0_20 g1.1
  generalize (cNum 2566 0 11 a).2 = b at *
  have X : 0 ≤ s5 3 7 ∧ s5 3 7 < 12 := by omega
  refine Run.mono (P_X6_takeNumber (2066 + 2 * b 1 2566) e5 t3 ⟨by decide, by decide⟩) (fun r6 s7 e => ?_)
  obtain ⟨e8, e9, e10, e11⟩ := e
  refine ⟨r01 e8, fun z => ⟨X, ?_⟩, fun z => ?_⟩
  rotate_left
  · have y := no e8 z
    rw [cThen_f y]
    exact bad (fun z => z) e9 (fun x hx => by rw [e10.1 x (by omega), fr1 x (by omega)])
  have y2 := yes e8 z
  rw [cThen_t y2]
  have g2 := cNum_G (lo := 0) (hi := 7) t3 (show 2056 ≤ 2066 + 2 * b 1 2566 ∧ 2066 + 2 * b 1 2566 < 2570 by omega)
  have n2 := nv_num (i := 10 + 2 * s5 3 7) y2 (by omega)
  have m2 := e11 y2
  rw [← cNum_at y2] at m2
  have t4 := g2.2.1 y2
  have c3 : (cNum (2066 + 2 * b 1 2566) 0 7 b).2 2 = u 2 := by rw [(cNum_t y2).2, tA_fr.1 2 (by omega), kup_o (by omega), c2]
  have q2 : (cNum (2066 + 2 * b 1 2566) 0 7 b).2 1 (2066 + 2 * b 1 2566) = vN (cNum (2066 + 2 * b 1 2566) 0 7 b).2 (10 + 2 * s5 3 7) := by
    show _ = (cNum (2066 + 2 * b 1 2566) 0 7 b).2 1 (2056 + (10 + 2 * s5 3 7))
    rw [show (2056 : Int) + (10 + 2 * s5 3 7) = 2066 + 2 * b 1 2566 by omega]
  have F2 := fT0_20 g2.1
  generalize (cNum (2066 + 2 * b 1 2566) 0 7 b).2 = d at *
  refine Run.mono (P_X6_takeNumber (2066 + 2 * b 1 2566 + 1) (tRs_57 e9 (by omega)) t4 ⟨by decide, by decide⟩) (fun r10 s11 e => ?_)
  obtain ⟨e12, e13, e14, e15⟩ := e
  have fr3 : ∀ x, x ≠ 3 → x ≠ 32 → s11 x = σ x := fun x q q' => by rw [e14.1 x q, kup_o (by omega), e10.1 x q, fr1 x q]
  refine ⟨r01 e12, fun z => ⟨X, ?_⟩, fun z => ?_⟩
  rotate_left
  · have y := no e12 z
    exact bad y e13 (fun x hx => fr3 x (by omega) (by omega))
  have y3 := yes e12 z
  have g3 := cNum_G (lo := 0) (hi := 3) t4 (show 2056 ≤ 2066 + 2 * b 1 2566 + 1 ∧ 2066 + 2 * b 1 2566 + 1 < 2570 by omega)
  have n3 := nv_num (i := 10 + 2 * s5 3 7 + 1) y3 (by omega)
  have m3 := e15 y3
  rw [← cNum_at y3] at m3
  have q3 : (cNum (2066 + 2 * b 1 2566 + 1) 0 3 d).2 1 (2066 + 2 * b 1 2566 + 1) = vN (cNum (2066 + 2 * b 1 2566 + 1) 0 3 d).2 (10 + 2 * s5 3 7 + 1) := by
    show _ = (cNum (2066 + 2 * b 1 2566 + 1) 0 3 d).2 1 (2056 + (10 + 2 * s5 3 7 + 1))
    rw [show (2056 : Int) + (10 + 2 * s5 3 7 + 1) = 2066 + 2 * b 1 2566 + 1 by omega]
  have c4 : (cNum (2066 + 2 * b 1 2566 + 1) 0 3 d).2 2 = u 2 := by rw [(cNum_t y3).2, tA_fr.1 2 (by omega), kup_o (by omega), c3]
  have F3 := fT0_20 g3.1
  generalize hf : cNum (2066 + 2 * b 1 2566 + 1) 0 3 d = f at *
  have V : ∀ j, j ≠ 510 → j ≠ 10 + 2 * s5 3 7 → j ≠ 10 + 2 * s5 3 7 + 1 → vN f.2 j = vN u j := fun j h0 h1 h2 => by rw [n3.1 j h2, n2.1 j h1, n1.1 j h0, nA]
  refine ⟨(kb_1 y3).symm, tRs_57 e13 (by omega), fun _ => ⟨?_, nmY_to nm (by omega) (fun x p q => by rw [kup_o (by omega), fr3 x (by omega) (by omega)]) ⟨V 2 (by omega) (by omega) (by omega), V 3 (by omega) (by omega) (by omega), V 4 (by omega) (by omega) (by omega)⟩ (fun j p q => by rw [c4]), ?_, ?_⟩, fun x hx => by rw [kup_o (by omega), fr3 x (by omega) (by omega)]⟩
  · have v1 : vN f.2 (10 + 2 * s5 3 7) = s7 3 7 := by rw [n3.1 _ (by omega), m2, q2]
    have v2 : vN f.2 (10 + 2 * s5 3 7 + 1) = s11 3 7 := by rw [m3, q3]
    have r1 : 0 ≤ s7 3 7 ∧ s7 3 7 ≤ 7 := by rw [m2, q2]; exact n2.2
    have r2 : 0 ≤ s11 3 7 ∧ s11 3 7 ≤ 3 := by rw [m3, q3]; exact n3.2
    refine kco_ext (wf_wind2 w X r1 r2) (fun j p q => ?_) (kco_force (c := 31) (x := s11 3 7) (t := s5 3 7) (v := ku (vN u) (10 + 2 * s5 3 7) (s7 3 7)) (by rw [ku_ne (by omega), ku_ne (by omega), ku_ne (by omega)]; omega) ?_ X)
    · by_cases j1 : j = 10 + 2 * s5 3 7 + 1
      · rw [j1, ku_eq, v2]
      · rw [ku_ne j1]
        by_cases j2 : j = 10 + 2 * s5 3 7
        · rw [j2, ku_eq, v1]
        · rw [ku_ne j2]; exact V j (by omega) j2 j1
    · have base : kco (kup s7 (31 + 1) (s5 3 7) (s7 3 7)) 31 (ku (vN u) (10 + 2 * s5 3 7) (s7 3 7)) := kco_dir w (kco_kfm (A := fun x => x = 3) w k (fun x hx => by rw [e10.1 x hx, fr1 x hx]) (fun x a b => by omega)) X
      have w' : wf (ku (vN u) (10 + 2 * s5 3 7) (s7 3 7)) := by
        have := wf_wind2 (t := s5 3 7) (x := s7 3 7) (y := vN u (10 + 2 * s5 3 7 + 1)) w X r1 (w.2.1 (s5 3 7) X.1 X.2).2
        rw [show ku (ku (vN u) (10 + 2 * s5 3 7) (s7 3 7)) (10 + 2 * s5 3 7 + 1) (vN u (10 + 2 * s5 3 7 + 1)) = ku (vN u) (10 + 2 * s5 3 7) (s7 3 7) by
          funext j
          by_cases q : j = 10 + 2 * s5 3 7 + 1
          · rw [q, ku_eq, ku_ne (by omega)]
          · rw [ku_ne q]] at this
        exact this
      exact kco_kfm (A := fun x => x = 3) w' base (fun x hx => e14.1 x hx) (fun x a b => by omega)
  · rw [kup_o (x := 57) (by omega), fr3 57 (by omega) (by omega), F3, F2, F1, fT0_20 fA]; exact f2
  · rw [kup_o (x := 57) (by omega), fr3 57 (by omega) (by omega), F3, F2, F1, fT0_20 fA]; exact f3
