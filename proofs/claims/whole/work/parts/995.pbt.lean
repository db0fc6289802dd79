/-- what a test owes -/
def zOk (s i : Int) (r : Prop × Kmem) (σ : Kmem) (y : Int) (m : Kmem) : Prop := y = kb r.1 ∧ tRs m r.2 ∧ zT s m σ ∧ (r.1 → m (s + 2) (σ s 2) = zTs (vN r.2) i ∧ m (s + 3) (σ s 2) = vN r.2 (i + 1) ∧ (vN r.2 i = 2024 → m (s + 4) (σ s 2) = vN r.2 (i + 2)))
theorem vN_at {m : Kmem} {a i : Int} (h : a = 2056 + i) : m 1 a = vN m i := by subst h; rfl
theorem P_X7_readTest {G : Kg} {σ u : Kmem} {s c r i : Int} (hs : isS s) (hc : isC c) (far : c + 26 ≤ s ∨ s + 7 ≤ c) (h : tRs σ u) (t : sk0 u) (z : nmZ σ c u) (hn : 0 ≤ σ s 2 ∧ σ s 2 < 60) (hi : r = 2056 + i) (hr : 2206 ≤ r ∧ r ≤ 2560) : Run G WX M_X7_readTest 7 0 0 [vA G s, vA G 3, vA G c] σ (fun y m => zOk s i (cTest r u) σ y m) := by
  have fs := isS_f hs
  have t1 := t.1.1
  have T0 := tRs_T0 h t1.1
  have x : ∀ k : Nat, k < 28 ∧ k ≠ 15 → (xW σ (-((10 + k : Nat) : Int)) ↔ tWi u = (wdK k : Int)) := fun k hk => xW_t h t1.1 ⟨k, hk, rfl, rfl⟩
  have st : ∀ k : Nat, k < 29 → isStr (-((10 + k : Nat) : Int)) := fun k hk => ⟨k, hk, rfl⟩
  have w26 := (tWi_ok (τ := u)).1
  have e : cTest r u = kif (tWi u < 24) (False, tF u 2) (kif (tWi u = 25) (cOld 6 (u 1 3) (r + 1) (tA (kup u 1 r (2000 + tWi u)))) (cThen (cKT (r + 1) (tA (kup u 1 r (2000 + tWi u)))) (cTe2 (tWi u) r))) := rfl
  obtain ⟨k0, f0⟩ := test_u t hr
  have kk := fT0_k f0
  have v0 := nv_up (τ := u) (y := 2000 + tWi u) hi
  rw [← nv_tA (τ := kup u 1 r (2000 + tWi u))] at v0
  have a2 : (tA (kup u 1 r (2000 + tWi u))) 2 = u 2 := by rw [tA_fr.1 2 (by omega), kup_o (by omega)]
  have z0 := nmZ_u z a2 kk
  have t0 := k0.1.1
  have lift : ∀ m, tRs m (tA u) → tRs m (tA (kup u 1 r (2000 + tWi u))) := fun m q => tRs_A1 q
  generalize tA (kup u 1 r (2000 + tWi u)) = a at *
  refine S_X7_readTest hs hc ⟨⟨T0, st 19 (by omega)⟩, fun n1 => ⟨⟨T0, st 20 (by omega)⟩, fun n2 => ?_, fun y => ?_⟩, fun y => ?_⟩
  rotate_right
  · -- ripe
    have ew : tWi u = 25 := (x 19 (by omega)).1 y
    rw [kif_f (by omega), kif_t ew] at e
    refine Run.mono (P_X6_next' h t1.1) (fun r' s28 q => ?_)
    obtain ⟨-, q2, q3⟩ := q
    have c2 : s28 s = σ s := q3.1 s (by omega)
    rw [c2]
    refine ⟨hn, fun m30 e30 => ?_⟩
    have z30 : zT s m30 σ := by
      rw [e30, ← c2]; exact zT.trans hs zT_up (zT_S hs q3)
    have r30 : tRs m30 a := by rw [e30]; exact tRs_57 (lift _ q2) (by omega)
    have l30 : m30 s 2 = σ s 2 := by rw [z30.1 s (by omega) (by omega) (by omega) (by omega)]
    have s30 : m30 (s + 2) (σ s 2) = 4 := by rw [e30, kup_at]
    refine Run.mono (P_X6_isNameHere r30 t0) (fun r32 s33 q => ?_)
    obtain ⟨p1, p2, p3⟩ := q
    refine ⟨r01 p1, fun q => ?_, fun q => ?_⟩
    · have nn := no p1 q
      obtain ⟨x1, x2⟩ := p3 nn
      have E : cOld 6 (u 1 3) (r + 1) a = (False, tF a 2) := kif_f nn
      rw [e, E]
      exact ⟨(kb_0 (fun z => z)).symm, x1, zT.trans hs (zT_S hs x2) z30, fun z => z.elim⟩
    have yn := yes p1 q
    have es := p2 yn
    subst es
    have z33 := nmZ_T hs hc k0 z30.1 far z0
    refine Run.mono (P_X0_cropNamed hc ⟨z33.2.1, k0.2.2, z33.2.2, nmE_tok r30 t0.1 yn.1 yn.2.1⟩) (fun r35 s36 q => ?_)
    obtain ⟨q5, q6⟩ := q
    subst q6
    refine Run.mono (oldThing (a := 6) (b := a 1 3) (r + 1) hs r30 t0 yn q5 (by have := k0.2.2; omega) (by rw [l30]; exact hn)) (fun r37 s38 q => ?_)
    obtain ⟨g1, g2, g3, g4⟩ := q
    rw [kk.2] at g1 g2 g4
    have fin : zOk s i (cTest r u) σ r37 s38 := by
      rw [e]
      refine ⟨g1, g2, zT.trans hs (zT_W hs g3 (Or.inl rfl)) z30, fun yy => ?_⟩
      have o := nv_old (i := i + 1) yy (by omega)
      have vi : vN (cOld 6 (u 1 3) (r + 1) a).2 i = 2025 := by rw [o.1 i (by omega), v0.2, ew]; rfl
      refine ⟨?_, ?_, fun q => by omega⟩
      · rw [g3.1 _ (by omega) (by omega), s30]; unfold zTs; rw [if_pos vi]
      · rw [← l30, g4 yy, vN_at (m := (cOld 6 (u 1 3) (r + 1) a).2) (i := i + 1) (show r + 1 = 2056 + (i + 1) by omega)]
    refine ⟨r01 g1, fun q => ?_, fun q => ?_⟩
    · subst q; exact fin
    · have : r37 = 1 := by rw [g1, kb_1 (yes g1 q)]
      subst this; exact fin
  rotate_right
  · -- up
    have ew : tWi u = 26 := (x 20 (by omega)).1 y
    rw [kif_f (by omega), kif_f (by omega)] at e
    refine Run.mono (P_X6_next' h t1.1) (fun r' s28 q => ?_)
    obtain ⟨-, q2, q3⟩ := q
    have c2 : s28 s = σ s := q3.1 s (by omega)
    rw [c2]
    refine ⟨hn, fun m30 e30 => ?_⟩
    have z30 : zT s m30 σ := by
      rw [e30, ← c2]; exact zT.trans hs zT_up (zT_S hs q3)
    have r30 : tRs m30 a := by rw [e30]; exact tRs_57 (lift _ q2) (by omega)
    have l30 : m30 s 2 = σ s 2 := by rw [z30.1 s (by omega) (by omega) (by omega) (by omega)]
    have s30 : m30 (s + 2) (σ s 2) = 5 := by rw [e30, kup_at]
    have z33 := nmZ_T hs hc k0 z30.1 far z0
    refine Run.mono (P_X7_readKite (r + 1) hs hc r30 k0 z33 (by rw [l30]; exact hn)) (fun r37 s38 q => ?_)
    obtain ⟨g1, g2, g3, g4⟩ := q
    refine ⟨by rw [g1]; exact kb_01 _, ?_⟩
    have E : cThen (cKT (r + 1) a) (cTe2 (tWi u) r) = cKT (r + 1) a ∨ ¬ (cKT (r + 1) a).1 := by
      by_cases yy : (cKT (r + 1) a).1
      · left
        rw [cThen_t yy]
        have : cTe2 (tWi u) r (cKT (r + 1) a).2 = (True, (cKT (r + 1) a).2) := kif_t ew
        rw [this]
        exact Prod.ext (propext ⟨fun _ => yy, fun _ => trivial⟩) rfl
      · exact Or.inr yy
    rcases E with E | E
    · rw [e, E]
      refine ⟨g1, g2, zT.trans hs (zT_W hs g3 (Or.inl rfl)) z30, fun yy => ?_⟩
      have o := nv_KT (i := i + 1) yy k0 (by omega)
      have vi : vN (cKT (r + 1) a).2 i = 2026 := by rw [o.1 i (by omega), v0.2, ew]; rfl
      refine ⟨?_, ?_, fun q => by omega⟩
      · rw [g3.1 _ (by omega) (by omega), s30]; unfold zTs; rw [if_neg (by omega), if_pos vi]
      · rw [← l30, g4 yy, vN_at (m := (cKT (r + 1) a).2) (i := i + 1) (show r + 1 = 2056 + (i + 1) by omega)]
    · rw [e, cThen_f E]
      exact ⟨by rw [g1, kb_0 E, kb_0 (fun z => z)], g2, zT.trans hs (zT_W hs g3 (Or.inl rfl)) z30, fun z => z.elim⟩
  -- purse, or nothing
  have m1 : tWi u ≠ 25 := fun q => n1 ((x 19 (by omega)).2 q)
  have m2 : tWi u ≠ 26 := fun q => n2 ((x 20 (by omega)).2 q)
  refine Run.mono (P_X6_takeWord h t1 (a := -31) (k := 24) ⟨21, by decide, rfl, rfl⟩) (fun r7 s8 q => ?_)
  obtain ⟨p1, p2, p3⟩ := q
  refine ⟨r01 p1, fun q => ?_, fun q => ?_⟩
  · have ne : tWi u ≠ 24 := fun q' => no p1 q (by unfold cWord; rw [kif_t q']; trivial)
    have E : (cWord 24 u).2 = tF u 2 := by unfold cWord; rw [kif_f ne]
    rw [kif_t (by omega)] at e
    rw [e]
    rw [E] at p2
    exact ⟨(kb_0 (fun z => z)).symm, p2, zT_S hs p3, fun z => z.elim⟩
  have yw := cWord_v (yes p1 q)
  have ew : tWi u = 24 := yw.1
  rw [yw.2] at p2
  have r8 := lift _ p2
  rw [kif_f (by omega), kif_f (by omega)] at e
  have z8 := zT_S hs p3
  have l8 : s8 s 2 = σ s 2 := by rw [p3.1 s (by omega)]
  refine Run.mono (P_X7_readKite (r + 1) hs hc r8 k0 (nmZ_T hs hc k0 z8.1 far z0) (by rw [l8]; exact hn)) (fun r10 s11 q => ?_)
  obtain ⟨g1, g2, g3, g4⟩ := q
  have z11 := zT.trans hs (zT_W hs g3 (Or.inl rfl)) z8
  refine ⟨r01 g1, fun q => ?_, fun q => ?_⟩
  rotate_left
  · rw [e, cThen_f (no g1 q)]
    exact ⟨(kb_0 (fun z => z)).symm, g2, z11, fun z => z.elim⟩
  have yk := yes g1 q
  rw [cThen_t yk] at e
  have gk := cKT_G k0 (to := r + 1) (by omega)
  have tw := gk.2.1 yk
  have o := nv_KT (i := i + 1) yk k0 (by omega)
  have g4 := g4 yk
  rw [vN_at (m := (cKT (r + 1) a).2) (i := i + 1) (show r + 1 = 2056 + (i + 1) by omega)] at g4
  generalize (cKT (r + 1) a).2 = w at *
  have E2 : cTe2 (tWi u) r w = kif (tS3 w) (cNum (r + 2) 0 9999 (tA (kup w 1 (r + 5) (w 0 15)))) (False, tF w 2) := kif_f m2
  have l11 : s11 s 2 = σ s 2 := by rw [z11.1 s (by omega) (by omega) (by omega) (by omega)]
  have T11 := tRs_T0 g2 tw.1
  have sg : ∀ c, 59 ≤ c ∧ c ≤ 62 → (xSg s11 c ↔ tSg w c) := fun c hc => xSg_t g2 tw.1 hc
  -- the sign behind
  have last : ∀ v m41, m41 = kup s11 (s + 2) (s11 s 2) v → tS3 w → v = (if w 0 15 = 60 then 1 else if w 0 15 = 62 then 2 else 3) → Run G WX M_X6_next 1 0 0 [vA G 3] m41 (fun r45 s46 => Run G WX M_X7_readNumber 3 0 0 [vA G s, vA G 3, vI 0, vI 9999] s46 (fun r47 s48 => (r47 = 0 ∨ r47 = 1) ∧ zOk s i (cTest r u) σ r47 s48)) := by
    intro v m41 e41 s3 hv
    rw [kif_t s3] at E2
    have r41 : tRs m41 (kup w 1 (r + 5) (w 0 15)) := by rw [e41]; exact tRs_57 (tRs_1 g2 (by omega)) (by omega)
    have t41 := tk1_1 (j := r + 5) (y := w 0 15) tw
    refine Run.mono (P_X6_next' r41 t41.1) (fun r45 s46 q => ?_)
    obtain ⟨-, q2, q3⟩ := q
    have z46 : zT s s46 σ := zT.trans hs (zT_S hs q3) (zT.trans hs (by rw [e41]; exact zT_up) z11)
    have l46 : s46 s 2 = σ s 2 := by rw [z46.1 s (by omega) (by omega) (by omega) (by omega)]
    refine Run.mono (P_X7_readNumber (r + 2) hs q2 (tA_k1 (tok_x0 t41.1) t41.2) ⟨by decide, by decide⟩ (by rw [l46]; exact hn)) (fun r47 s48 q => ?_)
    obtain ⟨w1, w2, w3, w4⟩ := q
    refine ⟨by rw [w1]; exact kb_01 _, ?_⟩
    rw [e, E2]
    refine ⟨w1, w2, zT.trans hs (zT_W hs w3 (Or.inr rfl)) z46, fun yy => ?_⟩
    have nn := nv_num (i := i + 2) yy (by omega)
    have n1 := nv_up (τ := w) (y := w 0 15) (i := i + 5) (show r + 5 = 2056 + (i + 5) by omega)
    rw [nv_tA] at nn
    have w4 := w4 yy
    rw [vN_at (m := (cNum (r + 2) 0 9999 (tA (kup w 1 (r + 5) (w 0 15)))).2) (i := i + 2) (show r + 2 = 2056 + (i + 2) by omega), l46] at w4
    generalize vN (cNum (r + 2) 0 9999 (tA (kup w 1 (r + 5) (w 0 15)))).2 = f at *
    have f0 : f i = 2024 := by rw [nn.1 i (by omega), n1.1 i (by omega), o.1 i (by omega), v0.2, ew]; rfl
    have f1 : f (i + 1) = vN w (i + 1) := by rw [nn.1 _ (by omega), n1.1 _ (by omega)]
    have f5 : f (i + 5) = w 0 15 := by rw [nn.1 _ (by omega), n1.2]
    refine ⟨?_, ?_, fun _ => w4⟩
    · have EV : zTs f i = v := by
        unfold zTs
        rw [if_neg (by omega), if_neg (by omega), f5]; exact hv.symm
      rw [EV, w3.1 _ (by omega) (by omega), q3.1 _ (by omega), e41, ← l11, kup_at]
    · rw [w3.1 _ (by omega) (by omega), q3.1 _ (by omega), e41, kup_o (by omega), f1, ← l8]; exact g4
  have s137 : ∀ v, (v = 1 ∧ tSg w 60 ∨ v = 2 ∧ ¬ tSg w 60 ∧ tSg w 62 ∨ v = 3 ∧ ¬ tSg w 60 ∧ ¬ tSg w 62) → E_X7_readTest_137 G s v (s11 s 2) (s + 2) s11 (fun y m => zOk s i (cTest r u) σ y m) := by
    intro v hv
    refine S_X7_readTest_137 hs hc (kS_tests (σ := s11) hs) ⟨by rw [l11]; exact hn, fun m41 e41 => ?_⟩
    have z41 : zT s m41 s11 := by rw [e41]; exact zT_up
    have l41 : m41 s 2 = s11 s 2 := by rw [z41.1 s (by omega) (by omega) (by omega) (by omega)]
    have v41 : m41 (s + 2) (m41 s 2) = v := by rw [l41, e41, kup_at]
    have r41 : tRs m41 w := by rw [e41]; exact tRs_57 g2 (by omega)
    rw [v41]
    refine ⟨by rw [l41, l11]; exact hn, by rcases hv with ⟨q, -⟩ | ⟨q, -⟩ | ⟨q, -⟩ <;> rw [q] <;> decide, fun ne => ?_, fun eq => ⟨⟨tRs_T0 r41 tw.1, by decide⟩, fun y => ?_, fun n => ⟨tRs_r2 r41 tw.1, ?_⟩⟩⟩
    · rcases hv with ⟨q, q1⟩ | ⟨q, q1, q2⟩ | ⟨q, -⟩
      · exact last v m41 e41 (Or.inl q1) (by rw [if_pos q1.2]; exact q)
      · exact last v m41 e41 (Or.inr (Or.inl q2)) (by rw [if_neg (by omega), if_pos q2.2]; exact q)
      · exact absurd q ne
    · have y' := (xSg_t r41 tw.1 (by omega)).1 y
      exact last v m41 e41 (Or.inr (Or.inr y')) (by rw [if_neg (by omega), if_neg (by omega)]; exact eq)
    · have n' : ¬ tSg w 61 := fun q => n ((xSg_t r41 tw.1 (by omega)).2 q)
      have hv' : ¬ tSg w 60 ∧ ¬ tSg w 62 := by
        rcases hv with ⟨q, -⟩ | ⟨q, -⟩ | ⟨-, q⟩
        · omega
        · omega
        · exact q
      have ns : ¬ tS3 w := fun q => q.elim hv'.1 (fun q => q.elim hv'.2 n')
      rw [kif_f ns] at E2
      rw [e, E2]
      exact ⟨(kb_0 (fun z => z)).symm, tRs_F r41 tw, zT.trans hs (zT_S hs xF_B) (zT.trans hs z41 z11), fun z => z.elim⟩
  refine ⟨⟨T11, by decide⟩, fun n60 => ⟨⟨T11, by decide⟩, fun n62 => s137 3 (Or.inr (Or.inr ⟨rfl, fun q => n60 ((sg 60 (by omega)).2 q), fun q => n62 ((sg 62 (by omega)).2 q)⟩)), fun y62 => s137 2 (Or.inr (Or.inl ⟨rfl, fun q => n60 ((sg 60 (by omega)).2 q), (sg 62 (by omega)).1 y62⟩))⟩, fun y60 => s137 1 (Or.inl ⟨rfl, (sg 60 (by omega)).1 y60⟩)⟩
