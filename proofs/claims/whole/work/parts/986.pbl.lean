/-! CountyReader: tenants -/
theorem P_X1_readTenant {G : Kg} {σ u : Kmem} (h : tRs σ u) (hy : tY σ (vN u) (u 2) (u 0 20)) (t : tk2 u) (c : cz (vN u) (u 0 20)) : Run G WX M_X1_readTenant 7 0 0 [vA G 57] σ (fun y s => xOk (cTen u) σ y s) := by
  have w := c.1
  have w1 := wf_h w
  have kh := kco_h hy.1
  have bad : ∀ {r : Prop × Kmem} {s : Kmem}, ¬ r.1 → tRs s r.2 → kfm aR s σ → xOk r σ 0 s := fun a b c => ⟨(kb_0 a).symm, b, fun z => absurd z a, c⟩
  have n3 : vN u 4 = u 1 2060 := rfl
  unfold cTen
  refine S_X1_readTenant ⟨by rw [kh.2.2.2.2]; constructor <;> omega, fun q => ?_, fun q => ⟨tRs_r2 h t.1.1, ?_⟩⟩
  rotate_left
  · have E : cNew 4 6 14 u = (False, tF u 6) := kif_t (show u 1 (2056 + 4) = 6 from (by have := kh.2.2.2.2; omega : u 1 2060 = 6))
    rw [E, cThen_f (fun z => z)]
    exact bad (fun z => z) (tRs_F h t.1) (fun x hx => xF_B.1 x (by omega))
  have ne : u 1 (2056 + 4) ≠ 6 := (by have := kh.2.2.2.2; omega : u 1 2060 ≠ 6)
  refine newName (c := 14) h t.1 w hy ne (fun r4 s5 e4 e5 e6 e7 e8 => ⟨r01 e4, fun z => ?_, fun z => ?_⟩)
  · have y := no e4 z
    rw [cThen_f y]
    exact bad (fun z => z) e5 (fun x hx => e6 x (by omega))
  have y1 := yes e4 z
  rw [cThen_t y1]
  have g1 := cNew_G t (Or.inr (Or.inr ⟨rfl, rfl, rfl⟩)) (a := 4) (b := 6) (c := 14)
  have t2 := g1.2.1 y1
  have v1 := nv_new y1
  have a2 := g2_new y1
  have F1 := fT0_20 g1.1
  have N1 := e8 y1
  have nm1 := g1.2.2.2 t.2.1
  have c0 : (cNew 4 6 14 u).2 1 2056 = u 1 2056 := congrFun v1 0
  have c1 : (cNew 4 6 14 u).2 1 2057 = u 1 2057 := congrFun v1 1
  have k0 : vN u 0 = u 1 2056 := rfl
  have k1 : vN u 1 = u 1 2057 := rfl
  generalize (cNew 4 6 14 u).2 = a at *
  refine Run.mono (P_X1_readField (2176 + 5 * u 1 2060) e5 t2 (by omega) ⟨by rw [e6 31 (by omega), c0, kh.1.1]; exact k0, by omega⟩ ⟨by rw [e6 31 (by omega), c1, kh.1.2.1]; exact k1, by omega⟩) (fun r7 s8 e => ?_)
  obtain ⟨f1, f2, f3, f4, f5⟩ := e
  refine ⟨r01 f1, fun z => ?_, fun z => ?_⟩
  · have y := no f1 z
    rw [cThen_f y]
    exact bad (fun z => z) f2 (fun x hx => by rw [f3 x (by omega), e6 x (by omega)])
  have y2 := yes f1 z
  rw [cThen_t y2]
  have gF := cFld_G t2 (to := 2176 + 5 * u 1 2060) (by omega)
  have t3 := gF.2.1 y2
  have v2 := nv_fld (i := 120 + 5 * u 1 2060) y2 (by omega) (by omega)
  obtain ⟨p5, p6⟩ := f5 y2
  have p5' : (cFld (2176 + 5 * u 1 2060) a).2 1 (2176 + 5 * u 1 2060) = vN (cFld (2176 + 5 * u 1 2060) a).2 (120 + 5 * u 1 2060) := by
    show _ = (cFld (2176 + 5 * u 1 2060) a).2 1 (2056 + (120 + 5 * u 1 2060))
    rw [show (2056 : Int) + (120 + 5 * u 1 2060) = 2176 + 5 * u 1 2060 by omega]
  have p6' : (cFld (2176 + 5 * u 1 2060) a).2 1 (2176 + 5 * u 1 2060 + 1) = vN (cFld (2176 + 5 * u 1 2060) a).2 (120 + 5 * u 1 2060 + 1) := by
    show _ = (cFld (2176 + 5 * u 1 2060) a).2 1 (2056 + (120 + 5 * u 1 2060 + 1))
    rw [show (2056 : Int) + (120 + 5 * u 1 2060 + 1) = 2176 + 5 * u 1 2060 + 1 by omega]
  have b2 := g2_fld y2
  have F2 := fT0_20 gF.1
  have nm2 := gF.2.2.2 nm1
  generalize (cFld (2176 + 5 * u 1 2060) a).2 = b at *
  refine Run.mono (P_X6_takeWord f2 t3 (a := -16) (k := 14) ⟨6, by decide, rfl, rfl⟩) (fun r10 s11 e => ?_)
  obtain ⟨e9, e10, e11⟩ := e
  refine ⟨r01 e9, fun z => ?_, fun z => ?_⟩
  · have y := no e9 z
    rw [cThen_f y]
    exact bad (fun z => z) e10 (fun x hx => by rw [e11.1 x (by omega), f3 x (by omega), e6 x (by omega)])
  have y3 := yes e9 z
  rw [cThen_t y3]
  have gW := cWord_G (k := 14) t3
  have t4 := gW.2.1 y3
  have v3 := nv_word y3
  have c2 := g2_word y3
  have F3 := fT0_20 gW.1
  have nm3 := gW.2.2.2 nm2
  have d58 : (cWord 14 b).2 1 2058 = vN u 2 := by
    have : (cWord 14 b).2 1 2058 = vN (cWord 14 b).2 2 := rfl
    rw [this, v3, v2.1 2 (by omega) (by omega), v1]
  have nd := nv_old (τ := (cWord 14 b).2) (a := 80) (b := (cWord 14 b).2 1 2058) (i := 120 + 5 * u 1 2060 + 2) (to := 2176 + 5 * u 1 2060 + 2)
  generalize (cWord 14 b).2 = d at *
  refine Run.mono (P_X6_isNameHere e10 t4) (fun r13 s14 e => ?_)
  obtain ⟨e12, e13, e14⟩ := e
  have frb : ∀ x, x ≠ 3 → x ≠ 57 → s11 x = σ x := fun x p q => by rw [e11.1 x p, f3 x (by omega), e6 x (by omega)]
  refine ⟨r01 e12, fun z => ?_, fun z => ?_⟩
  rotate_left
  · have y := no e12 z
    have E : cOld 80 (d 1 2058) (2176 + 5 * u 1 2060 + 2) d = (False, tF d 2) := kif_f y
    obtain ⟨x1, x2⟩ := e14 y
    rw [E, cThen_f (fun z => z)]
    exact bad (fun z => z) x1 (fun x hx => by rw [x2.1 x (by omega), frb x (by omega) (by omega)])
  have y4 := yes e12 z
  have es := e13 y4
  subst es
  have D2 : d 2 = ku (u 2) (94 + u 1 2060) (tNm (tA u)) := by rw [c2, b2, a2]; rfl
  have nt := nmE_tok e10 t4.1 y4.1 y4.2.1
  have nb : nmB s14 (31 + 6) (vN u 2) (d 2) 80 := fun i p q => by
    rw [D2, ku_ne (by omega), frb _ (by omega) (by omega)]; exact hy.2.1.1 i p q
  refine Run.mono (P_X0_kiteNamed (c := 31) (Or.inr (Or.inl rfl)) ⟨by rw [frb 31 (by omega) (by omega)]; exact kh.2.2.1, by omega, nb, nt⟩) (fun r16 s17 e => ?_)
  obtain ⟨e15, e16⟩ := e
  subst e16
  have r16e : r16 = tFi d 80 (d 1 2058) := by rw [e15, d58]; rfl
  have r16r := fst_r (p := fun k => d 2 (80 + k) = tNm d) (vN u 2).toNat 0
  rw [← e15] at r16r
  have fr11 : ∀ x, x ≠ 3 → s17 x = s8 x := fun x p => e11.1 x p
  refine ⟨by constructor <;> omega, fun z => ?_, fun z => ⟨tRs_r2 e10 t4.1, ?_⟩⟩
  rotate_left
  · have E : cOld 80 (d 1 2058) (2176 + 5 * u 1 2060 + 2) d = (False, tF (kup d 1 (2176 + 5 * u 1 2060 + 2) (tFi d 80 (d 1 2058))) 3) := by
      unfold cOld; rw [kif_t y4, kif_t (by rw [← r16e]; exact z)]
    rw [E, cThen_f (fun z => z)]
    exact bad (fun z => z) (tRs_F (tRs_1 e10 (by omega)) (tk1_1 t4)) (fun x hx => by rw [xF_B.1 x (by omega), frb x (by omega) (by omega)])
  have ne1 : tFi d 80 (d 1 2058) ≠ -1 := by rw [← r16e]; exact z
  have E : cOld 80 (d 1 2058) (2176 + 5 * u 1 2060 + 2) d = (True, tA (kup d 1 (2176 + 5 * u 1 2060 + 2) (tFi d 80 (d 1 2058)))) := by
    unfold cOld; rw [kif_t y4, kif_f ne1]
  have y5 : (cOld 80 (d 1 2058) (2176 + 5 * u 1 2060 + 2) d).1 := by rw [E]; trivial
  have v4 := nd y5 (by omega)
  have d2 := g2_old y5
  have F4 := fT0_20 (cOld_G (a := 80) (b := d 1 2058) (c := 2176 + 5 * u 1 2060 + 2) ⟨t4, nm3⟩ ⟨by rw [d58]; omega, by omega⟩).1
  rw [cThen_t y5]
  refine Run.mono (P_X6_next' (τ := kup d 1 (2176 + 5 * u 1 2060 + 2) (tFi d 80 (d 1 2058))) (tRs_1 e10 (by omega)) (tok_1 t4.1)) (fun r19 s20 e => ?_)
  obtain ⟨-, e17, e18⟩ := e
  have e13 : tRs s20 (cOld 80 (d 1 2058) (2176 + 5 * u 1 2060 + 2) d).2 := by rw [E]; exact e17
  have fr : ∀ x, x ≠ 3 → x ≠ 57 → s20 x = σ x := fun x p q => by rw [e18.1 x p, frb x p q]
  have s31 : s20 31 = σ 31 := fr 31 (by omega) (by omega)
  generalize (cOld 80 (d 1 2058) (2176 + 5 * u 1 2060 + 2) d).2 = f at *
  have v5 := nv_inc (τ := f) (i := 4) (show (2060 : Int) = 2056 + 4 by rfl)
  have h6 : s20 31 7 = u 1 2060 := by rw [s31, kh.2.2.2.2]; rfl
  rw [h6]
  have r7' : s20 57 4 = s5 57 4 ∧ s20 57 5 = s8 57 5 ∧ s20 57 6 = s8 57 6 ∧ s20 57 2 = σ 57 2 ∧ s20 57 3 = σ 57 3 := by
    rw [e18.1 57 (by omega), fr11 57 (by omega), f4 4 (by omega) (by omega), f4 2 (by omega) (by omega), f4 3 (by omega) (by omega), e7 2 (by omega), e7 3 (by omega)]
    exact ⟨rfl, rfl, rfl, rfl, rfl⟩
  refine ⟨by omega, S_X9_begin (kIsX_ten (Or.inr (Or.inl rfl)) ⟨by omega, by omega⟩) ?_⟩
  have M : ∃ m : Kmem, m = kup (kup (kup (kup (kup (kup s20 (31 + 20 + u 1 2060) 0 (s20 57 4)) (31 + 20 + u 1 2060) 1 (s20 57 5)) (31 + 20 + u 1 2060) 2 (s20 57 6)) (31 + 20 + u 1 2060) 3 r16) (31 + 20 + u 1 2060) 4 0) (31 + 20 + u 1 2060) 5 0 := ⟨_, rfl⟩
  obtain ⟨m, em⟩ := M
  rw [← em]
  have mo : ∀ x, x ≠ 31 + 20 + u 1 2060 → m x = s20 x := fun x hx => by rw [em, kup_o hx, kup_o hx, kup_o hx, kup_o hx, kup_o hx, kup_o hx]
  have m0 : m (31 + 20 + u 1 2060) 0 = s5 57 4 := by rw [em]; simp (disch := omega) only [kup_j, kup_at]; exact r7'.1
  have m1 : m (31 + 20 + u 1 2060) 1 = s8 57 5 := by rw [em]; simp (disch := omega) only [kup_j, kup_at]; exact r7'.2.1
  have m2 : m (31 + 20 + u 1 2060) 2 = s8 57 6 := by rw [em]; simp (disch := omega) only [kup_j, kup_at]; exact r7'.2.2.1
  have m3 : m (31 + 20 + u 1 2060) 3 = r16 := by rw [em]; simp (disch := omega) only [kup_j, kup_at]
  have m4'' : m (31 + 20 + u 1 2060) 4 = 0 ∧ m (31 + 20 + u 1 2060) 5 = 0 := by constructor <;> (rw [em]; simp (disch := omega) only [kup_j, kup_at])
  clear em
  have fin : ∀ x, x ≠ 31 → x ≠ 31 + 20 + u 1 2060 → (kup m 31 7 (m 31 7 + 1)) x = s20 x := fun x p q => by rw [kup_o p, mo x q]
  have fσ : ∀ x, x ≠ 3 → x ≠ 57 → x ≠ 31 → x ≠ 31 + 20 + u 1 2060 → (kup m 31 7 (m 31 7 + 1)) x = σ x := fun x p q r r' => by rw [fin x r r', fr x p q]
  have fA : (kup m 31 7 (m 31 7 + 1)) (31 + 20 + u 1 2060) = m (31 + 20 + u 1 2060) := kup_o (by omega)
  have f31 : ∀ j, j ≠ 7 → (kup m 31 7 (m 31 7 + 1)) 31 j = σ 31 j := fun j hj => by rw [kup_j hj, mo 31 (by omega), s31]
  have f317 : (kup m 31 7 (m 31 7 + 1)) 31 7 = u 1 2060 + 1 := by rw [kup_at, mo 31 (by omega), h6]
  have V : ∀ j, j ≠ 4 → (j < 120 + 5 * u 1 2060 ∨ 120 + 5 * u 1 2060 + 2 < j) → vN (kInc f 2060) j = vN u j := fun j q1 q2 => by rw [v5.1 j q1, v4.1 j (by omega), v3, v2.1 j (by omega) (by omega), v1]
  have V3 : vN (kInc f 2060) 4 = vN u 4 + 1 := by rw [v5.2, v4.1 4 (by omega), v3, v2.1 4 (by omega) (by omega), v1]
  have V0' : vN (kInc f 2060) (120 + 5 * u 1 2060) = s8 57 5 := by rw [v5.1 _ (by omega), v4.1 _ (by omega), v3, p5, p5']
  have V1' : vN (kInc f 2060) (120 + 5 * u 1 2060 + 1) = s8 57 6 := by rw [v5.1 _ (by omega), v4.1 _ (by omega), v3, p6, p6']
  have V2' : vN (kInc f 2060) (120 + 5 * u 1 2060 + 2) = r16 := by rw [v5.1 _ (by omega), v4.2.1, r16e]
  have zr := c.2.2.1.2.2 (u 1 2060) (by omega) (by omega)
  have V3' : vN (kInc f 2060) (120 + 5 * u 1 2060 + 3) = 0 ∧ vN (kInc f 2060) (120 + 5 * u 1 2060 + 4) = 0 := by rw [V _ (by omega) (by omega), V _ (by omega) (by omega)]; exact zr
  have G2 : (kInc f 2060) 2 = ku (u 2) (94 + u 1 2060) (tNm (tA u)) := by
    rw [g2_inc, d2, D2]
  have G20 : (kInc f 2060) 0 20 = u 0 20 := by
    rw [show (kInc f 2060) 0 = f 0 from kup_o (by omega), F4, F3, F2, F1]
  have tf : tRs (kup m 31 7 (m 31 7 + 1)) (kInc f 2060) := by
    have : tRs s20 (kInc f 2060) := tRs_1 e13 (by omega)
    unfold tRs tRt at *
    rw [fin 3 (by omega) (by omega), fin 4 (by omega) (by omega)]; exact this
  obtain ⟨k, nm, b2', b3'⟩ := hy
  refine ⟨(kb_1 trivial).symm, tf, fun _ => ?_, fun x hx => fσ x (by omega) (by omega) (by omega) (by omega)⟩
  show tY _ (vN (kInc f 2060)) ((kInc f 2060) 2) ((kInc f 2060) 0 20)
  rw [G2, G20]
  generalize vN (kInc f 2060) = v' at *
  generalize kup m 31 7 (m 31 7 + 1) = z at *
  obtain ⟨kH, kW, kK, kC, kT⟩ := k
  have V2 := V 2 (by omega) (by omega)
  have V4 := V 3 (by omega) (by omega)
  refine ⟨⟨?_, fun i p q => ?_, fun i p q => ?_, fun i p q => ?_, fun i p q => ?_⟩, ⟨fun i p q => ?_, fun i p q => ?_, fun i p q => ?_⟩, ?_, ?_⟩
  · unfold kcoH at *
    rw [f31 0 (by omega), f31 1 (by omega), f31 2 (by omega), f31 3 (by omega), f31 4 (by omega), f31 5 (by omega), f31 6 (by omega), f317, V 0 (by omega) (by omega), V 1 (by omega) (by omega), V 5 (by omega) (by omega), V 6 (by omega) (by omega), V 7 (by omega) (by omega), V2, V4, V3]
    exact ⟨kH.1, kH.2.1, kH.2.2.1, kH.2.2.2.1, rfl⟩
  · rw [fσ _ (by omega) (by omega) (by omega) (by omega), fσ _ (by omega) (by omega) (by omega) (by omega), V _ (by omega) (by omega), V _ (by omega) (by omega)]
    exact kW i p q
  · rw [V2] at q
    have := kK i p q
    rw [fσ _ (by omega) (by omega) (by omega) (by omega), V _ (by omega) (by omega), V _ (by omega) (by omega), V _ (by omega) (by omega), V _ (by omega) (by omega), V _ (by omega) (by omega), V _ (by omega) (by omega), V _ (by omega) (by omega), V _ (by omega) (by omega), V _ (by omega) (by omega)]
    exact this
  · rw [V4] at q
    have := kC i p q
    rw [fσ _ (by omega) (by omega) (by omega) (by omega), V _ (by omega) (by omega), V _ (by omega) (by omega), V _ (by omega) (by omega), V _ (by omega) (by omega)]
    exact this
  · by_cases e : i = u 1 2060
    · rw [e, fA, m1, m2, m3, m4''.1, m4''.2, V0', V1', V2', V3'.1, V3'.2]; exact ⟨⟨rfl, rfl⟩, rfl, rfl, rfl⟩
    · rw [V3] at q
      have := kT i p (by omega)
      rw [fσ _ (by omega) (by omega) (by omega) (by omega), V _ (by omega) (by omega), V _ (by omega) (by omega), V _ (by omega) (by omega), V _ (by omega) (by omega), V _ (by omega) (by omega)]
      exact this
  · rw [V2] at q
    rw [fσ _ (by omega) (by omega) (by omega) (by omega), ku_ne (by omega)]; exact nm.1 i p q
  · rw [V4] at q
    rw [fσ _ (by omega) (by omega) (by omega) (by omega), ku_ne (by omega)]; exact nm.2.1 i p q
  · by_cases e : i = u 1 2060
    · have : (51 : Int) + i = 31 + 20 + u 1 2060 := by omega
      rw [this, fA, m0, e, ku_eq]; exact N1
    · rw [V3] at q
      rw [fσ _ (by omega) (by omega) (by omega) (by omega), ku_ne (by omega)]; exact nm.2.2 i p (by omega)
  · rw [fin 57 (by omega) (by omega), r7'.2.2.2.1]; exact b2'
  · rw [fin 57 (by omega) (by omega), r7'.2.2.2.2]; exact b3'
