/-! CountyReader: crops -/
theorem g2_word {τ : Kmem} {k : Int} (h : (cWord k τ).1) : (cWord k τ).2 2 = τ 2 := by rw [(cWord_v h).2, tA_fr.1 2 (by omega)]
theorem g2_num {τ : Kmem} {to lo hi : Int} (h : (cNum to lo hi τ).1) : (cNum to lo hi τ).2 2 = τ 2 := by rw [(cNum_t h).2, tA_fr.1 2 (by omega), kup_o (by omega)]
theorem g2_fld {τ : Kmem} {to : Int} (h : (cFld to τ).1) : (cFld to τ).2 2 = τ 2 := by
  obtain ⟨a1, b1, e1⟩ := cThen_y h
  obtain ⟨a2, b2, e2⟩ := cThen_y b1
  have E : (cFld to τ).2 = _ := congrArg Prod.snd (e1.trans e2)
  rw [E, g2_num b2, g2_num a2, g2_word a1]
theorem g2_old {τ : Kmem} {a b to : Int} (h : (cOld a b to τ).1) : (cOld a b to τ).2 2 = τ 2 := by rw [(cOld_v h).2, tA_fr.1 2 (by omega), kup_o (by omega)]
theorem g2_new {τ : Kmem} {a b c : Int} (h : (cNew a b c τ).1) : (cNew a b c τ).2 2 = ku (τ 2) (80 + c + τ 1 (2056 + a)) (tNm (tA τ)) := by
  rw [(cNew_v h).2, tA_fr.1 2 (by omega), kup_k, kst_eq, tA_fr.1 2 (by omega)]
theorem g2_inc {τ : Kmem} {j : Int} : (kInc τ j) 2 = τ 2 := kup_o (by omega)
theorem tY_j57 {s σ : Kmem} {v g : Int → Int} {T : Int} (w : wf v) (h : tY σ v g T) (f : kfm j57 s σ) (f2 : s 57 2 = σ 57 2 ∧ s 57 3 = σ 57 3) : tY s v g T := by
  have w1 := wf_h w
  obtain ⟨k, nm, b2, b3⟩ := h
  exact ⟨kco_kfm (A := j57) w k f (fun x a b => by omega), nmY_to nm (by omega) (fun x a b => by rw [f x (by omega)]) ⟨rfl, rfl, rfl⟩ (fun j _ _ => rfl), by rw [f2.1]; exact b2, by rw [f2.2]; exact b3⟩
/-- what a new name brings -/
theorem newName {G : Kg} {σ u : Kmem} {a b c : Int} {K : Int → Kmem → Prop} (h : tRs σ u) (t : tk1 u) (w : wf (vN u)) (hy : tY σ (vN u) (u 2) (u 0 20)) (ne : u 1 (2056 + a) ≠ b) (hK : ∀ r s, r = kb ((cNew a b c u).1) → tRs s (cNew a b c u).2 → kfm j57 s σ → (∀ i, i ≠ 4 → s 57 i = σ 57 i) → ((cNew a b c u).1 → nmE (s 57 4) (tNm (tA u))) → K r s) : Run G WX M_X6_next 1 0 0 [vA G 3] σ (fun _ s3 => Run G WX M_X1_readNewName 6 0 0 [vA G 57] s3 K) := by
  have E := cNew_nm (c := c) ne
  rw [E] at hK
  refine Run.mono (P_X6_next' h t.1) (fun r s e => ?_)
  obtain ⟨-, e2, e3⟩ := e
  have t2 := tA_k1 (tok_x0 t.1) t.2
  have nA : vN (tA u) = vN u := nv_tA
  have A2 : (tA u) 2 = u 2 := tA_fr.1 2 (by omega)
  have y2 := tY_j57 w hy (kS_57 e3) ⟨by rw [e3.1 57 (by omega)], by rw [e3.1 57 (by omega)]⟩
  refine Run.mono (P_X1_readNewName (80 + c + tA u 1 (2056 + a)) e2 t2 (by rw [nA]; exact w) (by rw [nA]; exact y2.1) (by rw [nA, A2]; exact y2.2.1)) (fun r s e => ?_)
  obtain ⟨q1, q2, q3, q4, q5⟩ := e
  exact hK r s q1 q2 (q3.trans (kS_57 e3)) (fun i hi => by rw [q4 i hi, e3.1 57 (by omega)]) q5
theorem P_X1_readCrop {G : Kg} {σ u : Kmem} (h : tRs σ u) (hy : tY σ (vN u) (u 2) (u 0 20)) (t : tk2 u) (c : cz (vN u) (u 0 20)) : Run G WX M_X1_readCrop 7 0 0 [vA G 57] σ (fun y s => xOk (cCrop u) σ y s) := by
  have w := c.1
  have w1 := wf_h w
  have kh := kco_h hy.1
  have bad : ∀ {r : Prop × Kmem} {s : Kmem}, ¬ r.1 → tRs s r.2 → kfm aR s σ → xOk r σ 0 s := fun a b c => ⟨(kb_0 a).symm, b, fun z => absurd z a, c⟩
  have n3 : vN u 3 = u 1 2059 := rfl
  unfold cCrop
  refine S_X1_readCrop ⟨by rw [kh.2.2.2.1]; constructor <;> omega, fun q => ?_, fun q => ⟨tRs_r2 h t.1.1, ?_⟩⟩
  rotate_left
  · have E : cNew 3 8 6 u = (False, tF u 6) := kif_t (show u 1 (2056 + 3) = 8 from (by have := kh.2.2.2.1; omega : u 1 2059 = 8))
    rw [E, cThen_f (fun z => z)]
    exact bad (fun z => z) (tRs_F h t.1) (fun x hx => xF_B.1 x (by omega))
  have ne : u 1 (2056 + 3) ≠ 8 := (by have := kh.2.2.2.1; omega : u 1 2059 ≠ 8)
  refine newName (c := 6) h t.1 w hy ne (fun r4 s5 e4 e5 e6 e7 e8 => ⟨r01 e4, fun z => ?_, fun z => ?_⟩)
  · have y := no e4 z
    rw [cThen_f y]
    exact bad (fun z => z) e5 (fun x hx => e6 x (by omega))
  have y1 := yes e4 z
  rw [cThen_t y1]
  have g1 := cNew_G t (Or.inr (Or.inl ⟨rfl, rfl, rfl⟩)) (a := 3) (b := 8) (c := 6)
  have t2 := g1.2.1 y1
  have v1 := nv_new y1
  have a2 := g2_new y1
  have F1 := fT0_20 g1.1
  have N1 := e8 y1
  have c0 : (cNew 3 8 6 u).2 1 2056 = u 1 2056 := congrFun v1 0
  have c1 : (cNew 3 8 6 u).2 1 2057 = u 1 2057 := congrFun v1 1
  have k0 : vN u 0 = u 1 2056 := rfl
  have k1 : vN u 1 = u 1 2057 := rfl
  generalize (cNew 3 8 6 u).2 = a at *
  refine Run.mono (P_X1_readField (2144 + 4 * u 1 2059) e5 t2 (by omega) ⟨by rw [e6 31 (by omega), c0, kh.1.1]; exact k0, by omega⟩ ⟨by rw [e6 31 (by omega), c1, kh.1.2.1]; exact k1, by omega⟩) (fun r7 s8 e => ?_)
  obtain ⟨f1, f2, f3, f4, f5⟩ := e
  refine ⟨r01 f1, fun z => ?_, fun z => ?_⟩
  rotate_left
  · have y := no f1 z
    rw [cThen_f y]
    exact bad (fun z => z) f2 (fun x hx => by rw [f3 x (by omega), e6 x (by omega)])
  have y2 := yes f1 z
  rw [cThen_t y2]
  have gF := cFld_G t2 (to := 2144 + 4 * u 1 2059) (by omega)
  have t3 := gF.2.1 y2
  have v2 := nv_fld (i := 88 + 4 * u 1 2059) y2 (by omega) (by omega)
  obtain ⟨p5, p6⟩ := f5 y2
  have p5' : (cFld (2144 + 4 * u 1 2059) a).2 1 (2144 + 4 * u 1 2059) = vN (cFld (2144 + 4 * u 1 2059) a).2 (88 + 4 * u 1 2059) := by
    show _ = (cFld (2144 + 4 * u 1 2059) a).2 1 (2056 + (88 + 4 * u 1 2059))
    rw [show (2056 : Int) + (88 + 4 * u 1 2059) = 2144 + 4 * u 1 2059 by omega]
  have p6' : (cFld (2144 + 4 * u 1 2059) a).2 1 (2144 + 4 * u 1 2059 + 1) = vN (cFld (2144 + 4 * u 1 2059) a).2 (88 + 4 * u 1 2059 + 1) := by
    show _ = (cFld (2144 + 4 * u 1 2059) a).2 1 (2056 + (88 + 4 * u 1 2059 + 1))
    rw [show (2056 : Int) + (88 + 4 * u 1 2059 + 1) = 2144 + 4 * u 1 2059 + 1 by omega]
  have b2 := g2_fld y2
  have F2 := fT0_20 gF.1
  generalize (cFld (2144 + 4 * u 1 2059) a).2 = b at *
  refine Run.mono (P_X6_takeWord f2 t3 (a := -15) (k := 13) ⟨5, by decide, rfl, rfl⟩) (fun r10 s11 e => ?_)
  obtain ⟨e9, e10, e11⟩ := e
  refine ⟨r01 e9, fun z => ?_, fun z => ?_⟩
  · have y := no e9 z
    rw [cThen_f y]
    exact bad (fun z => z) e10 (fun x hx => by rw [e11.1 x (by omega), f3 x (by omega), e6 x (by omega)])
  have y3 := yes e9 z
  rw [cThen_t y3]
  have gW := cWord_G (k := 13) t3
  have t4 := gW.2.1 y3
  have v3 := nv_word y3
  have c2 := g2_word y3
  have F3 := fT0_20 gW.1
  generalize (cWord 13 b).2 = d at *
  refine Run.mono (P_X6_takeNumber (2144 + 4 * u 1 2059 + 2) e10 t4 ⟨by decide, by decide⟩) (fun r13 s14 e => ?_)
  obtain ⟨e12, e13, e14, e15⟩ := e
  have fr : ∀ x, x ≠ 3 → x ≠ 57 → s14 x = σ x := fun x p q => by rw [e14.1 x p, e11.1 x p, f3 x (by omega), e6 x (by omega)]
  have s31 : s14 31 = σ 31 := fr 31 (by omega) (by omega)
  refine ⟨r01 e12, fun z => ?_, fun z => ?_⟩
  rotate_left
  · have y := no e12 z
    rw [cThen_f y]
    exact bad (fun z => z) e13 (fun x hx => by rw [fr x (by omega) (by omega)])
  have y4 := yes e12 z
  rw [cThen_t y4]
  have gN := cNum_G (lo := 1) (hi := 99) t4 (show 2056 ≤ 2144 + 4 * u 1 2059 + 2 ∧ 2144 + 4 * u 1 2059 + 2 < 2570 by omega)
  have v4 := nv_num (i := 88 + 4 * u 1 2059 + 2) y4 (by omega)
  have m4 := e15 y4
  rw [← cNum_at y4] at m4
  have m4' : (cNum (2144 + 4 * u 1 2059 + 2) 1 99 d).2 1 (2144 + 4 * u 1 2059 + 2) = vN (cNum (2144 + 4 * u 1 2059 + 2) 1 99 d).2 (88 + 4 * u 1 2059 + 2) := by
    show _ = (cNum (2144 + 4 * u 1 2059 + 2) 1 99 d).2 1 (2056 + (88 + 4 * u 1 2059 + 2))
    rw [show (2056 : Int) + (88 + 4 * u 1 2059 + 2) = 2144 + 4 * u 1 2059 + 2 by omega]
  have d2 := g2_num y4
  have F4 := fT0_20 gN.1
  generalize (cNum (2144 + 4 * u 1 2059 + 2) 1 99 d).2 = f at *
  have v5 := nv_inc (τ := f) (i := 3) (show (2059 : Int) = 2056 + 3 by rfl)
  have h6 : s14 31 6 = u 1 2059 := by rw [s31, kh.2.2.2.1]; rfl
  rw [h6]
  have r7' : s14 57 4 = s5 57 4 ∧ s14 57 5 = s8 57 5 ∧ s14 57 6 = s8 57 6 ∧ s14 57 2 = σ 57 2 ∧ s14 57 3 = σ 57 3 := by
    rw [e14.1 57 (by omega), e11.1 57 (by omega), f4 4 (by omega) (by omega), f4 2 (by omega) (by omega), f4 3 (by omega) (by omega), e7 2 (by omega), e7 3 (by omega)]
    exact ⟨rfl, rfl, rfl, rfl, rfl⟩
  refine ⟨by omega, S_X2_begin (kIsX_crop (Or.inr (Or.inl rfl)) ⟨by omega, by omega⟩) ?_⟩
  have M : ∃ m : Kmem, m = kup (kup (kup (kup (kup s14 (31 + 12 + u 1 2059) 0 (s14 57 4)) (31 + 12 + u 1 2059) 1 (s14 57 5)) (31 + 12 + u 1 2059) 2 (s14 57 6)) (31 + 12 + u 1 2059) 3 (s14 3 7)) (31 + 12 + u 1 2059) 4 0 := ⟨_, rfl⟩
  obtain ⟨m, em⟩ := M
  rw [← em]
  have mo : ∀ x, x ≠ 31 + 12 + u 1 2059 → m x = s14 x := fun x hx => by rw [em, kup_o hx, kup_o hx, kup_o hx, kup_o hx, kup_o hx]
  have m0 : m (31 + 12 + u 1 2059) 0 = s5 57 4 := by rw [em]; simp (disch := omega) only [kup_j, kup_at]; exact r7'.1
  have m1 : m (31 + 12 + u 1 2059) 1 = s8 57 5 := by rw [em]; simp (disch := omega) only [kup_j, kup_at]; exact r7'.2.1
  have m2 : m (31 + 12 + u 1 2059) 2 = s8 57 6 := by rw [em]; simp (disch := omega) only [kup_j, kup_at]; exact r7'.2.2.1
  have m3 : m (31 + 12 + u 1 2059) 3 = s14 3 7 := by rw [em]; simp (disch := omega) only [kup_j, kup_at]
  have m4'' : m (31 + 12 + u 1 2059) 4 = 0 := by rw [em]; simp (disch := omega) only [kup_at]
  clear em
  have fin : ∀ x, x ≠ 31 → x ≠ 31 + 12 + u 1 2059 → (kup m 31 6 (m 31 6 + 1)) x = s14 x := fun x p q => by rw [kup_o p, mo x q]
  have fσ : ∀ x, x ≠ 3 → x ≠ 57 → x ≠ 31 → x ≠ 31 + 12 + u 1 2059 → (kup m 31 6 (m 31 6 + 1)) x = σ x := fun x p q r r' => by rw [fin x r r', fr x p q]
  have fA : (kup m 31 6 (m 31 6 + 1)) (31 + 12 + u 1 2059) = m (31 + 12 + u 1 2059) := kup_o (by omega)
  have f31 : ∀ j, j ≠ 6 → (kup m 31 6 (m 31 6 + 1)) 31 j = σ 31 j := fun j hj => by rw [kup_j hj, mo 31 (by omega), s31]
  have f316 : (kup m 31 6 (m 31 6 + 1)) 31 6 = u 1 2059 + 1 := by rw [kup_at, mo 31 (by omega), h6]
  have V : ∀ j, j ≠ 3 → (j < 88 + 4 * u 1 2059 ∨ 88 + 4 * u 1 2059 + 2 < j) → vN (kInc f 2059) j = vN u j := fun j q1 q2 => by rw [v5.1 j q1, v4.1 j (by omega), v3, v2.1 j (by omega) (by omega), v1]
  have V3 : vN (kInc f 2059) 3 = vN u 3 + 1 := by rw [v5.2, v4.1 3 (by omega), v3, v2.1 3 (by omega) (by omega), v1]
  have V0' : vN (kInc f 2059) (88 + 4 * u 1 2059) = s8 57 5 := by rw [v5.1 _ (by omega), v4.1 _ (by omega), v3, p5, p5']
  have V1' : vN (kInc f 2059) (88 + 4 * u 1 2059 + 1) = s8 57 6 := by rw [v5.1 _ (by omega), v4.1 _ (by omega), v3, p6, p6']
  have V2' : vN (kInc f 2059) (88 + 4 * u 1 2059 + 2) = s14 3 7 := by rw [v5.1 _ (by omega), m4, m4']
  have V3' : vN (kInc f 2059) (88 + 4 * u 1 2059 + 3) = 0 := by rw [V _ (by omega) (by omega)]; exact c.2.2.1.2.1 _ (by omega) (by omega)
  have G2 : (kInc f 2059) 2 = ku (u 2) (86 + u 1 2059) (tNm (tA u)) := by
    rw [g2_inc, d2, c2, b2, a2]; rfl
  have G20 : (kInc f 2059) 0 20 = u 0 20 := by
    rw [show (kInc f 2059) 0 = f 0 from kup_o (by omega), F4, F3, F2, F1]
  have tf : tRs (kup m 31 6 (m 31 6 + 1)) (kInc f 2059) := by
    have : tRs s14 (kInc f 2059) := tRs_1 e13 (by omega)
    unfold tRs tRt at *
    rw [fin 3 (by omega) (by omega), fin 4 (by omega) (by omega)]; exact this
  obtain ⟨k, nm, b2', b3'⟩ := hy
  refine ⟨(kb_1 trivial).symm, tf, fun _ => ?_, fun x hx => fσ x (by omega) (by omega) (by omega) (by omega)⟩
  show tY _ (vN (kInc f 2059)) ((kInc f 2059) 2) ((kInc f 2059) 0 20)
  rw [G2, G20]
  generalize vN (kInc f 2059) = v' at *
  generalize kup m 31 6 (m 31 6 + 1) = z at *
  obtain ⟨kH, kW, kK, kC, kT⟩ := k
  have V2 := V 2 (by omega) (by omega)
  have V4 := V 4 (by omega) (by omega)
  refine ⟨⟨?_, fun i p q => ?_, fun i p q => ?_, fun i p q => ?_, fun i p q => ?_⟩, ⟨fun i p q => ?_, fun i p q => ?_, fun i p q => ?_⟩, ?_, ?_⟩
  · unfold kcoH at *
    rw [f31 0 (by omega), f31 1 (by omega), f31 2 (by omega), f31 3 (by omega), f31 4 (by omega), f31 5 (by omega), f31 7 (by omega), f316, V 0 (by omega) (by omega), V 1 (by omega) (by omega), V 5 (by omega) (by omega), V 6 (by omega) (by omega), V 7 (by omega) (by omega), V2, V4, V3]
    exact ⟨kH.1, kH.2.1, kH.2.2.1, rfl, kH.2.2.2.2⟩
  · rw [fσ _ (by omega) (by omega) (by omega) (by omega), fσ _ (by omega) (by omega) (by omega) (by omega), V _ (by omega) (by omega), V _ (by omega) (by omega)]
    exact kW i p q
  · rw [V2] at q
    have := kK i p q
    rw [fσ _ (by omega) (by omega) (by omega) (by omega), V _ (by omega) (by omega), V _ (by omega) (by omega), V _ (by omega) (by omega), V _ (by omega) (by omega), V _ (by omega) (by omega), V _ (by omega) (by omega), V _ (by omega) (by omega), V _ (by omega) (by omega), V _ (by omega) (by omega)]
    exact this
  · by_cases e : i = u 1 2059
    · rw [e, fA, m1, m2, m3, m4'', V0', V1', V2', V3']; exact ⟨⟨rfl, rfl⟩, rfl, rfl⟩
    · rw [V3] at q
      have := kC i p (by omega)
      rw [fσ _ (by omega) (by omega) (by omega) (by omega), V _ (by omega) (by omega), V _ (by omega) (by omega), V _ (by omega) (by omega), V _ (by omega) (by omega)]
      exact this
  · rw [V4] at q
    have := kT i p q
    rw [fσ _ (by omega) (by omega) (by omega) (by omega), V _ (by omega) (by omega), V _ (by omega) (by omega), V _ (by omega) (by omega), V _ (by omega) (by omega), V _ (by omega) (by omega)]
    exact this
  · rw [V2] at q
    rw [fσ _ (by omega) (by omega) (by omega) (by omega), ku_ne (by omega)]; exact nm.1 i p q
  · by_cases e : i = u 1 2059
    · have : (43 : Int) + i = 31 + 12 + u 1 2059 := by omega
      rw [this, fA, m0, e, ku_eq]; exact N1
    · rw [V3] at q
      rw [fσ _ (by omega) (by omega) (by omega) (by omega), ku_ne (by omega)]; exact nm.2.1 i p (by omega)
  · rw [V4] at q
    rw [fσ _ (by omega) (by omega) (by omega) (by omega), ku_ne (by omega)]; exact nm.2.2 i p q
  · rw [fin 57 (by omega) (by omega), r7'.2.2.2.1]; exact b2'
  · rw [fin 57 (by omega) (by omega), r7'.2.2.2.2]; exact b3'
