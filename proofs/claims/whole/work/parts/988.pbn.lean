/-! CountyReader: a kite -/
theorem kite_end {σ u : Kmem} {n nm : Int} {s : Kmem} {r : Prop × Kmem} (hn : 0 ≤ n ∧ n < 6) (h : kKS σ u n nm s r) (hy : tY σ (vN u) (u 2) (u 0 20)) (c : cz (vN u) (u 0 20)) (e2 : vN u 2 = n) (N : nmE nm (tNm (tA u))) : (rI (s 3 8)) ∧ ((s 3 8 ≠ 0 → xOk (cThen r (fun u4 => (True, kInc u4 2058))) σ 0 s) ∧ (s 3 8 = 0 → xOk (cThen r (fun u4 => (True, kInc u4 2058))) σ 1 s)) := by
  have fr : kF σ n s → kfm aR s σ := fun f x hx => f x (by omega) (by omega) (by omega) (by omega)
  by_cases e : r.1
  · have k := h.1 e
    have K := kK_Y hn k hy c e2 N
    have e8 : s 3 8 = 0 := by rw [k.1.1.2.2.1.1]; exact k.1.2.2
    rw [cThen_t e, e8]
    exact ⟨by decide, fun z => absurd rfl z, fun _ => ⟨(kb_1 trivial).symm, K.1, fun _ => K.2, fr k.2.1.1⟩⟩
  · obtain ⟨⟨h1, h2, h3⟩, h4⟩ := h.2 e
    have e8 : s 3 8 = r.2 0 18 := h1.2.2.1.1
    rw [cThen_f e, e8]
    exact ⟨by constructor <;> omega, fun _ => ⟨(kb_0 (fun z => z)).symm, h1, fun z => z.elim, fr h4⟩, fun z => by omega⟩
theorem kit2_as {b : Int} {w : Kmem} : cKit2 b w = cThen (cThen (cThen (cThen (cThen (True, w) (cTrait 9 (b + 2) 2)) (cTrait 10 (b + 3) 9)) (cTrait 11 (b + 4) 3)) (cTrait 12 (b + 7) 7)) (fun u4 => (True, kInc u4 2058)) := by
  rw [cThen_t (r := (True, w)) trivial, cThen_as, cThen_as, cThen_as]
  unfold cKit2
  congr 1
theorem P_X1_readKite {G : Kg} {σ u : Kmem} (h : tRs σ u) (hy : tY σ (vN u) (u 2) (u 0 20)) (t : tk2 u) (c : cz (vN u) (u 0 20)) : Run G WX M_X1_readKite 7 0 0 [vA G 57] σ (fun y s => xOk (cKite u) σ y s) := by
  have w := c.1
  have w1 := wf_h w
  have kh := kco_h hy.1
  have bad : ∀ {r : Prop × Kmem} {s : Kmem}, ¬ r.1 → tRs s r.2 → kfm aR s σ → xOk r σ 0 s := fun a b c => ⟨(kb_0 a).symm, b, fun z => absurd z a, c⟩
  have n3 : vN u 2 = u 1 2058 := rfl
  unfold cKite
  refine S_X1_readKite ⟨by rw [kh.2.2.1]; constructor <;> omega, fun q => ?_, fun q => ⟨tRs_r2 h t.1.1, ?_⟩⟩
  rotate_left
  · have E : cNew 2 6 0 u = (False, tF u 6) := kif_t (show u 1 (2056 + 2) = 6 from (by have := kh.2.2.1; omega : u 1 2058 = 6))
    rw [E, cThen_f (fun z => z)]
    exact bad (fun z => z) (tRs_F h t.1) (fun x hx => xF_B.1 x (by omega))
  have ne : u 1 (2056 + 2) ≠ 6 := (by have := kh.2.2.1; omega : u 1 2058 ≠ 6)
  refine newName (c := 0) h t.1 w hy ne (fun r4 s5 e4 e5 e6 e7 e8 => ⟨r01 e4, fun z => ?_, fun z => ?_⟩)
  · have y := no e4 z
    rw [cThen_f y]
    exact bad (fun z => z) e5 (fun x hx => e6 x (by omega))
  have y1 := yes e4 z
  rw [cThen_t y1]
  have g1 := cNew_G t (Or.inl ⟨rfl, rfl, rfl⟩) (a := 2) (b := 6) (c := 0)
  have t2 := g1.2.1 y1
  have v1 := nv_new y1
  have a2 := g2_new y1
  have F1 := fT0_20 g1.1
  have N1 := e8 y1
  have c0 : (cNew 2 6 0 u).2 1 2056 = u 1 2056 := congrFun v1 0
  have c1 : (cNew 2 6 0 u).2 1 2057 = u 1 2057 := congrFun v1 1
  have k0 : vN u 0 = u 1 2056 := rfl
  have k1 : vN u 1 = u 1 2057 := rfl
  generalize (cNew 2 6 0 u).2 = a at *
  refine Run.mono (P_X1_readField (2090 + 9 * u 1 2058) e5 t2 (by omega) ⟨by rw [e6 31 (by omega), c0, kh.1.1]; exact k0, by omega⟩ ⟨by rw [e6 31 (by omega), c1, kh.1.2.1]; exact k1, by omega⟩) (fun r7 s8 e => ?_)
  obtain ⟨f1, f2, f3, f4, f5⟩ := e
  refine ⟨r01 f1, fun z => ?_, fun z => ?_⟩
  rotate_left
  · have y := no f1 z
    rw [cThen_f y]
    exact bad (fun z => z) f2 (fun x hx => by rw [f3 x (by omega), e6 x (by omega)])
  have y2 := yes f1 z
  rw [cThen_t y2]
  have gF := cFld_G t2 (to := 2090 + 9 * u 1 2058) (by omega)
  have t3 := gF.2.1 y2
  have v2 := nv_fld (i := 34 + 9 * u 1 2058) y2 (by omega) (by omega)
  obtain ⟨p5, p6⟩ := f5 y2
  have p5' : (cFld (2090 + 9 * u 1 2058) a).2 1 (2090 + 9 * u 1 2058) = vN (cFld (2090 + 9 * u 1 2058) a).2 (34 + 9 * u 1 2058) := by
    show _ = (cFld (2090 + 9 * u 1 2058) a).2 1 (2056 + (34 + 9 * u 1 2058))
    rw [show (2056 : Int) + (34 + 9 * u 1 2058) = 2090 + 9 * u 1 2058 by omega]
  have p6' : (cFld (2090 + 9 * u 1 2058) a).2 1 (2090 + 9 * u 1 2058 + 1) = vN (cFld (2090 + 9 * u 1 2058) a).2 (34 + 9 * u 1 2058 + 1) := by
    show _ = (cFld (2090 + 9 * u 1 2058) a).2 1 (2056 + (34 + 9 * u 1 2058 + 1))
    rw [show (2056 : Int) + (34 + 9 * u 1 2058 + 1) = 2090 + 9 * u 1 2058 + 1 by omega]
  have b2 := g2_fld y2
  have F2 := fT0_20 gF.1
  generalize (cFld (2090 + 9 * u 1 2058) a).2 = b at *
  generalize hn : u 1 2058 = n at *
  have zr := c.2.2.1.1 n (by omega) (by omega)
  have h5 : s8 31 5 = n := by rw [f3 31 (by omega), e6 31 (by omega), kh.2.2.1]; omega
  rw [h5]
  have N : nmE (s8 57 4) (tNm (tA u)) := by rw [f4 4 (by omega) (by omega)]; exact N1
  refine ⟨by omega, S_X3_begin (kIsX_kite (Or.inr (Or.inl rfl)) ⟨by omega, by omega⟩) ?_⟩
  have M : ∃ m : Kmem, m = kup (kup (kup (kup (kup (kup (kup (kup (kup (kup s8 (31 + 6 + n) 0 (s8 57 4)) (31 + 6 + n) 1 (s8 57 5)) (31 + 6 + n) 2 (s8 57 6)) (31 + 6 + n) 3 1) (31 + 6 + n) 4 3) (31 + 6 + n) 5 1) (31 + 6 + n) 6 0) (31 + 6 + n) 7 0) (31 + 6 + n) 8 0) (31 + 6 + n) 9 0 := ⟨_, rfl⟩
  obtain ⟨m, em⟩ := M
  rw [← em]
  have mo : ∀ x, x ≠ 31 + 6 + n → m x = s8 x := fun x hx => by rw [em, kup_o hx, kup_o hx, kup_o hx, kup_o hx, kup_o hx, kup_o hx, kup_o hx, kup_o hx, kup_o hx, kup_o hx]
  have m0 : m (31 + 6 + n) 0 = s8 57 4 := by rw [em]; simp (disch := omega) only [kup_j, kup_at]
  have m1 : m (31 + 6 + n) 1 = s8 57 5 := by rw [em]; simp (disch := omega) only [kup_j, kup_at]
  have m2 : m (31 + 6 + n) 2 = s8 57 6 := by rw [em]; simp (disch := omega) only [kup_j, kup_at]
  have m3 : m (31 + 6 + n) 3 = 1 := by rw [em]; simp (disch := omega) only [kup_j, kup_at]
  have m4 : m (31 + 6 + n) 4 = 3 := by rw [em]; simp (disch := omega) only [kup_j, kup_at]
  have m5 : m (31 + 6 + n) 5 = 1 := by rw [em]; simp (disch := omega) only [kup_j, kup_at]
  have m6 : m (31 + 6 + n) 6 = 0 := by rw [em]; simp (disch := omega) only [kup_j, kup_at]
  have m7 : m (31 + 6 + n) 7 = 0 := by rw [em]; simp (disch := omega) only [kup_j, kup_at]
  have m8 : m (31 + 6 + n) 8 = 0 := by rw [em]; simp (disch := omega) only [kup_j, kup_at]
  have m9 : m (31 + 6 + n) 9 = 0 := by rw [em]; simp (disch := omega) only [kup_j, kup_at]
  clear em
  rw [kit2_as]
  have kk1 := nv_up (τ := b) (y := 1) (i := 34 + 9 * n + 2) (show 2090 + 9 * n + 2 = 2056 + (34 + 9 * n + 2) by omega)
  have kk2 := nv_up (τ := kup b 1 (2090 + 9 * n + 2) 1) (y := 3) (i := 34 + 9 * n + 3) (show 2090 + 9 * n + 3 = 2056 + (34 + 9 * n + 3) by omega)
  have kk3 := nv_up (τ := kup (kup b 1 (2090 + 9 * n + 2) 1) 1 (2090 + 9 * n + 3) 3) (y := 1) (i := 34 + 9 * n + 4) (show 2090 + 9 * n + 4 = 2056 + (34 + 9 * n + 4) by omega)
  have kw : kup (kup (kup b 1 (2090 + 9 * n + 2) 1) 1 (2090 + 9 * n + 3) 3) 1 (2090 + 9 * n + 4) 1 = kKit b (2090 + 9 * n) := rfl
  rw [kw] at kk3
  have W : ∀ j, j ≠ 34 + 9 * n + 2 → j ≠ 34 + 9 * n + 3 → j ≠ 34 + 9 * n + 4 → vN (kKit b (2090 + 9 * n)) j = vN b j := fun j x y z => (kk3.1 j z).trans ((kk2.1 j y).trans (kk1.1 j x))
  have W2 : vN (kKit b (2090 + 9 * n)) (34 + 9 * n + 2) = 1 := by rw [kk3.1 _ (by omega), kk2.1 _ (by omega)]; exact kk1.2
  have W3 : vN (kKit b (2090 + 9 * n)) (34 + 9 * n + 3) = 3 := by rw [kk3.1 _ (by omega)]; exact kk2.2
  have W4 : vN (kKit b (2090 + 9 * n)) (34 + 9 * n + 4) = 1 := kk3.2
  have Wu : ∀ j, j ≠ 34 + 9 * n → j ≠ 34 + 9 * n + 1 → j ≠ 34 + 9 * n + 2 → j ≠ 34 + 9 * n + 3 → j ≠ 34 + 9 * n + 4 → vN (kKit b (2090 + 9 * n)) j = vN u j := fun j a0 a1 x y z => by rw [W j x y z, v2.1 j a0 a1, v1]
  have t5 : tk1 (kKit b (2090 + 9 * n)) := tk1_1 (tk1_1 (tk1_1 t3))
  have K0 : kKS σ u n (s8 57 4) (kup m 31 5 (m 31 5 + 1)) (True, kKit b (2090 + 9 * n)) := by
    refine ⟨fun _ => ⟨⟨?_, t5⟩, ⟨fun x a b c d => ?_, ⟨?_, ?_⟩, fun j hj => ?_, ?_⟩, ⟨?_, fun q p hp => ?_⟩, fun j a b c => ?_, ?_, ?_, ?_⟩, fun z => absurd trivial z⟩
    · have : tRs s8 (kKit b (2090 + 9 * n)) := tRs_1 (tRs_1 (tRs_1 f2 (by omega)) (by omega)) (by omega)
      unfold tRs tRt at *
      rw [kup_o (x := 3) (by omega), kup_o (x := 4) (by omega), mo 3 (by omega), mo 4 (by omega)]; exact this
    · rw [kup_o c, mo x d, f3 x (by omega), e6 x (by omega)]
    · rw [kup_o (x := 57) (by omega), mo 57 (by omega), f4 2 (by omega) (by omega), e7 2 (by omega)]
    · rw [kup_o (x := 57) (by omega), mo 57 (by omega), f4 3 (by omega) (by omega), e7 3 (by omega)]
    · rw [kup_j hj, mo 31 (by omega), f3 31 (by omega), e6 31 (by omega)]
    · rw [kup_at, mo 31 (by omega), h5]
    · rw [kup_o (by omega)]; exact m0
    · rw [kup_o (by omega)]
      rcases hp with ⟨a, b⟩ | ⟨a, b⟩ | ⟨a, b⟩ | ⟨a, b⟩ | ⟨a, b⟩ | ⟨a, b⟩ | ⟨a, b⟩ | ⟨a, b⟩ | ⟨a, b⟩ <;> rw [a, b]
      · rw [Int.add_zero, m1, W _ (by omega) (by omega) (by omega), p5, p5']
      · rw [m2, W _ (by omega) (by omega) (by omega), p6, p6']
      · rw [m3, W2]
      · rw [m4, W3]
      · rw [m5, W4]
      · rw [m6, Wu _ (by omega) (by omega) (by omega) (by omega) (by omega)]; exact zr.2.1.symm
      · rw [m7, Wu _ (by omega) (by omega) (by omega) (by omega) (by omega)]; exact zr.1.1.symm
      · rw [m8, Wu _ (by omega) (by omega) (by omega) (by omega) (by omega)]; exact zr.1.2.symm
      · rw [m9, Wu _ (by omega) (by omega) (by omega) (by omega) (by omega)]; exact zr.2.2.symm
    · exact Wu j (by omega) (by omega) (by omega) (by omega) (by omega)
    · rw [Wu 2 (by omega) (by omega) (by omega) (by omega) (by omega)]; exact n3
    · show (kKit b (2090 + 9 * n)) 2 = _
      unfold kKit
      rw [kup_o (by omega), kup_o (by omega), kup_o (by omega), b2, a2, show (2056 : Int) + 2 = 2058 by rfl, hn, Int.add_zero]
    · show (kKit b (2090 + 9 * n)) 0 20 = _
      unfold kKit
      rw [kup_x (by omega), kup_x (by omega), kup_x (by omega), F2, F1]
  have n6 : 0 ≤ n ∧ n < 6 := by omega
  -- the last two
  have tl : ∀ s' R, kKS σ u n (s8 57 4) s' R → E_X1_readKite_133 G (31 + 6 + n) s' (fun y s => xOk (cThen (cThen (cThen R (cTrait 11 (2090 + 9 * n + 4) 3)) (cTrait 12 (2090 + 9 * n + 7) 7)) (fun u4 => (True, kInc u4 2058))) σ y s) := by
    intro s' R k
    have r4 : ∀ s' R, kKS σ u n (s8 57 4) s' R → Run G WX M_X1_readTrait 5 0 0 [vA G 57, vA G (-14), vI 7] s' (fun r28 s29 => (rI r28) ∧ ((r28 = 0 → (rI (s29 3 8)) ∧ ((s29 3 8 ≠ 0 → xOk (cThen (cThen R (cTrait 12 (2090 + 9 * n + 7) 7)) (fun u4 => (True, kInc u4 2058))) σ 0 s29) ∧ (s29 3 8 = 0 → xOk (cThen (cThen R (cTrait 12 (2090 + 9 * n + 7) 7)) (fun u4 => (True, kInc u4 2058))) σ 1 s29))) ∧ (r28 ≠ 0 → (rI ((kup s29 (31 + 6 + n) 6 (s29 3 7)) 3 8)) ∧ (((kup s29 (31 + 6 + n) 6 (s29 3 7)) 3 8 ≠ 0 → xOk (cThen (cThen R (cTrait 12 (2090 + 9 * n + 7) 7)) (fun u4 => (True, kInc u4 2058))) σ 0 (kup s29 (31 + 6 + n) 6 (s29 3 7))) ∧ ((kup s29 (31 + 6 + n) 6 (s29 3 7)) 3 8 = 0 → xOk (cThen (cThen R (cTrait 12 (2090 + 9 * n + 7) 7)) (fun u4 => (True, kInc u4 2058))) σ 1 (kup s29 (31 + 6 + n) 6 (s29 3 7))))))) := by
      intro s' R k
      exact kTrait n6 k (a := -14) (k := 12) (q := 6) (p := 7) (hi := 7) ⟨4, by decide, rfl, rfl⟩ (by unfold rP; omega) (by omega) (by decide) (fun y s1 r0 k1 k2 => ⟨r0, fun z => kite_end n6 (k1 z) hy c (by omega) N, fun z => kite_end n6 (k2 z) hy c (by omega) N⟩)
    refine S_X1_readKite_133 (kIsX_kite (Or.inr (Or.inl rfl)) n6) ?_
    exact kTrait n6 k (a := -13) (k := 11) (q := 5) (p := 4) (hi := 3) ⟨3, by decide, rfl, rfl⟩ (by unfold rP; omega) (by omega) (by decide) (fun y s1 r0 k1 k2 => ⟨r0, fun z => r4 _ _ (k1 z), fun z => r4 _ _ (k2 z)⟩)
  have r2 : ∀ s' R, kKS σ u n (s8 57 4) s' R → Run G WX M_X1_readTrait 5 0 0 [vA G 57, vA G (-12), vI 9] s' (fun r16 s17 => (rI r16) ∧ ((r16 = 0 → E_X1_readKite_133 G (31 + 6 + n) s17 (fun y s => xOk (cThen (cThen (cThen (cThen R (cTrait 10 (2090 + 9 * n + 3) 9)) (cTrait 11 (2090 + 9 * n + 4) 3)) (cTrait 12 (2090 + 9 * n + 7) 7)) (fun u4 => (True, kInc u4 2058))) σ y s)) ∧ (r16 ≠ 0 → E_X1_readKite_133 G (31 + 6 + n) (kup s17 (31 + 6 + n) 4 (s17 3 7)) (fun y s => xOk (cThen (cThen (cThen (cThen R (cTrait 10 (2090 + 9 * n + 3) 9)) (cTrait 11 (2090 + 9 * n + 4) 3)) (cTrait 12 (2090 + 9 * n + 7) 7)) (fun u4 => (True, kInc u4 2058))) σ y s)))) := by
    intro s' R k
    exact kTrait n6 k (a := -12) (k := 10) (q := 4) (p := 3) (hi := 9) ⟨2, by decide, rfl, rfl⟩ (by unfold rP; omega) (by omega) (by decide) (fun y s1 r0 k1 k2 => ⟨r0, fun z => tl _ _ (k1 z), fun z => tl _ _ (k2 z)⟩)
  exact kTrait n6 K0 (a := -11) (k := 9) (q := 3) (p := 2) (hi := 2) ⟨1, by decide, rfl, rfl⟩ (by unfold rP; omega) (by omega) (by decide) (fun y s1 r0 k1 k2 => ⟨r0, fun z => r2 _ _ (k1 z), fun z => r2 _ _ (k2 z)⟩)
