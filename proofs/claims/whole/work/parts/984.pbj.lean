theorem P_X1_readLand {G : Kg} {σ τ u : Kmem} (h : tRs σ τ) (eu : u = kup τ 0 20 (τ 0 20 + 1)) (hy : tY σ (vN τ) (τ 2) (τ 0 20)) (t : tk1 τ) (c : cz (vN τ) (τ 0 20)) (hT : (0 ≤ τ 0 20 ∧ τ 0 20 < 16) ∧ τ 0 20 % 2 = 0) : Run G WX M_X1_readLand 6 0 0 [vA G 57] σ (fun y s => xOk (kif (tWi τ = 0) (cLand u) (False, tF τ 2)) σ y s) := by
  obtain ⟨k, nm, f2, f3⟩ := hy
  have w := c.1
  have w1 := wf_h w
  obtain ⟨z0, z2, z3, z4⟩ := c.2.1.1 hT.2
  have bad : ∀ {r : Prop × Kmem} {s : Kmem}, ¬ r.1 → tRs s r.2 → kfm aR s σ → xOk r σ 0 s := fun a b c => ⟨(kb_0 a).symm, b, fun z => absurd z a, c⟩
  refine S_X1_readLand (Run.mono (P_X6_takeWord h t (a := -24) (k := 0) ⟨14, by decide, rfl, rfl⟩) (fun r1 s2 e => ?_))
  obtain ⟨e1, e2, e3⟩ := e
  have fr1 : ∀ x, x ≠ 3 → s2 x = σ x := e3.1
  refine ⟨r01 e1, fun z => ?_, fun z => ?_⟩
  · have n := no e1 z
    have q : tWi τ ≠ 0 := fun q => n (by unfold cWord; rw [kif_t q]; exact trivial)
    rw [kif_f q]
    have E : (cWord 0 τ).2 = tF τ 2 := by unfold cWord; rw [kif_f q]
    rw [E] at e2
    exact bad (fun z => z) e2 (fun x hx => fr1 x (by omega))
  have y0 := yes e1 z
  have v0 := cWord_v y0
  rw [kif_t v0.1]
  rw [v0.2] at e2
  have t1 : tk1 u := by rw [eu]; exact (tk1_20 t).1
  have t2 := tA_k1 (tok_x0 t1.1) t1.2
  -- the reference's told is one more
  have e2' : tRs s2 (tA u) := by
    have v := tk1_20' τ (τ 0 20 + 1)
    have A := tA_v (τ := τ)
    have A' := tA_v (τ := u)
    have fA := tA_fr (τ := τ)
    have fA' := tA_fr (τ := u)
    have b : bA u = bA τ := by rw [eu]; exact v.2.2
    have s14 : u 0 14 = τ 0 14 := by rw [eu]; exact v.1 14 (by omega)
    have S : tS u = tS τ := by unfold tS; rw [b, s14]
    have E : tE u = tE τ := by unfold tE; rw [b, S]
    have V : tV u = tV τ := by unfold tV; rw [b, S, E]
    have K : tK u = tK τ := by unfold tK; rw [b, S, E]
    have bb : bA (tA u) = bA (tA τ) := by funext i; rw [tFr_b fA', tFr_b fA, b]
    unfold tRs tRt at *
    rw [A'.1, A'.2.1, A'.2.2.1, A'.2.2.2, fA'.2 11 (by omega), fA'.2 17 (by omega), fA'.2 18 (by omega), fA'.1 7 (by omega), bb, S, E, V, K, eu, v.1 11 (by omega), v.1 17 (by omega), v.1 18 (by omega), v.2.1]
    rw [A.1, A.2.1, A.2.2.1, A.2.2.2, fA.2 11 (by omega), fA.2 17 (by omega), fA.2 18 (by omega), fA.1 7 (by omega)] at e2
    exact e2
  have nA : vN (tA u) = vN τ := by rw [nv_tA, eu, nv_20]
  have A2 : (tA u) 2 = τ 2 := by rw [tA_fr.1 2 (by omega), eu, kup_o (by omega)]
  have A20 : (tA u) 0 20 = τ 0 20 + 1 := by rw [eu]; exact cap_20
  unfold cLand
  clear eu
  generalize tA u = a at *
  refine Run.mono (P_X6_takeNumber 2056 e2' t2 ⟨by decide, by decide⟩) (fun r4 s5 e => ?_)
  obtain ⟨e4, e5, e6, e7⟩ := e
  have fr2 : ∀ x, x ≠ 3 → s5 x = σ x := fun x q => by rw [e6.1 x q, fr1 x q]
  refine ⟨r01 e4, fun z => ?_, fun z => ?_⟩
  rotate_left
  · have y := no e4 z
    rw [cThen_f y]
    exact bad (fun z => z) e5 (fun x hx => fr2 x (by omega))
  have y1 := yes e4 z
  rw [cThen_t y1]
  have g1 := cNum_G (to := 2056) (lo := 1) (hi := 9) t2 (by omega)
  have n1 := nv_num (i := 0) y1 (by omega)
  have m1 := e7 y1
  rw [← cNum_at y1] at m1
  have t3 := g1.2.1 y1
  have c2 : (cNum 2056 1 9 a).2 2 = τ 2 := by rw [(cNum_t y1).2, tA_fr.1 2 (by omega), kup_o (by omega), A2]
  have q1 : (cNum 2056 1 9 a).2 1 2056 = vN (cNum 2056 1 9 a).2 0 := rfl
  have F1 := fT0_20 g1.1
  generalize (cNum 2056 1 9 a).2 = b at *
  refine Run.mono (P_X6_takeWord (τ := b) (tRs_57 e5 (by omega)) t3 (a := -10) (k := 7) ⟨0, by decide, rfl, rfl⟩) (fun r7 s8 e => ?_)
  obtain ⟨e8, e9, e10⟩ := e
  have fr3 : ∀ x, x ≠ 3 → x ≠ 31 → s8 x = σ x := fun x q q' => by rw [e10.1 x q, kup_o (by omega), fr2 x q]
  refine ⟨r01 e8, fun z => ?_, fun z => ?_⟩
  · have y := no e8 z
    rw [cThen_f y]
    exact bad (fun z => z) e9 (fun x hx => fr3 x (by omega) (by omega))
  have y2 := yes e8 z
  rw [cThen_t y2]
  have g2 := cWord_G (k := 7) t3
  have w2 := nv_word y2
  have t4 := g2.2.1 y2
  have c3 : (cWord 7 b).2 2 = τ 2 := by rw [(cWord_v y2).2, tA_fr.1 2 (by omega), c2]
  have F2 := fT0_20 g2.1
  generalize (cWord 7 b).2 = d at *
  refine Run.mono (P_X6_takeNumber 2057 e9 t4 ⟨by decide, by decide⟩) (fun r10 s11 e => ?_)
  obtain ⟨e12, e13, e14, e15⟩ := e
  refine ⟨r01 e12, fun z => ?_, fun z => ?_⟩
  rotate_left
  · have y := no e12 z
    exact bad y e13 (fun x hx => by rw [e14.1 x (by omega), fr3 x (by omega) (by omega)])
  have y3 := yes e12 z
  have g3 := cNum_G (to := 2057) (lo := 1) (hi := 7) t4 (by omega)
  have n3 := nv_num (i := 1) y3 (by omega)
  have m3 := e15 y3
  rw [← cNum_at y3] at m3
  have q3 : (cNum 2057 1 7 d).2 1 2057 = vN (cNum 2057 1 7 d).2 1 := rfl
  have c4 : (cNum 2057 1 7 d).2 2 = τ 2 := by rw [(cNum_t y3).2, tA_fr.1 2 (by omega), kup_o (by omega), c3]
  have F3 := fT0_20 g3.1
  generalize hf : cNum 2057 1 7 d = f at *
  have V : ∀ j, j ≠ 0 → j ≠ 1 → vN f.2 j = vN τ j := fun j h0 h1 => by rw [n3.1 j h1, w2, n1.1 j h0, nA]
  have T20 : f.2 0 20 = τ 0 20 + 1 := by rw [F3, F2, F1, A20]
  refine ⟨(kb_1 y3).symm, tRs_57 e13 (by omega), fun _ => ⟨?_, nmY_to nm (by omega) (fun x p q => by rw [kup_o (by omega), e14.1 x (by omega), fr3 x (by omega) (by omega)]) ⟨V 2 (by omega) (by omega), V 3 (by omega) (by omega), V 4 (by omega) (by omega)⟩ (fun j p q => by rw [c4]), ?_, ?_⟩, fun x hx => by rw [kup_o (by omega), e14.1 x (by omega), fr3 x (by omega) (by omega)]⟩
  · have v0' : vN f.2 0 = s5 3 7 := by rw [n3.1 0 (by omega), w2, m1, q1]
    have v1' : vN f.2 1 = s11 3 7 := by rw [m3, q3]
    obtain ⟨kH, kW, -, -, -⟩ := k
    have V2 := V 2 (by omega) (by omega)
    have V3 := V 3 (by omega) (by omega)
    have V4 := V 4 (by omega) (by omega)
    refine ⟨?_, fun i p q => ?_, fun i p q => by omega, fun i p q => by omega, fun i p q => by omega⟩
    · unfold kcoH at *
      rw [v0', v1', V 5 (by omega) (by omega), V 6 (by omega) (by omega), V 7 (by omega) (by omega), V2, V3, V4]
      have b31 : ∀ j, j ≠ 0 → j ≠ 1 → (kup s11 31 1 (s11 3 7)) 31 j = σ 31 j := fun j p q => by rw [kup_j q, e14.1 31 (by omega), e10.1 31 (by omega), kup_j p, fr2 31 (by omega)]
      rw [b31 2 (by omega) (by omega), b31 3 (by omega) (by omega), b31 4 (by omega) (by omega), b31 5 (by omega) (by omega), b31 6 (by omega) (by omega), b31 7 (by omega) (by omega), kup_at, kup_j (by omega), e14.1 31 (by omega), e10.1 31 (by omega), kup_at]
      exact ⟨⟨rfl, rfl, kH.1.2.2⟩, kH.2⟩
    · rw [kup_o (by omega), kup_o (by omega), e14.1 _ (by omega), e14.1 _ (by omega), fr3 _ (by omega) (by omega), fr3 _ (by omega) (by omega), V _ (by omega) (by omega), V _ (by omega) (by omega)]
      exact kW i p q
  · rw [kup_o (x := 57) (by omega), e14.1 57 (by omega), fr3 57 (by omega) (by omega), T20, f2]; omega
  · rw [kup_o (x := 57) (by omega), e14.1 57 (by omega), fr3 57 (by omega) (by omega), T20, f3]; omega
