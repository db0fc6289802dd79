/-! a season's step that was read -/
theorem sOpn_own {k n : Int} {u : Kmem} (h : k ≠ 20 ∧ k ≠ 21 ∧ k ≠ 22) : sOpn k n u = u := by unfold sOpn; rw [if_neg (by omega), if_neg (by omega)]
theorem cStep_ok {τ : Kmem} (c : snI τ) (h : (cStep τ).1) : snI (cStep τ).2 ∧ fS (cStep τ).2 τ ∧ τ 0 13 < (cStep τ).2 0 13 := by
  obtain ⟨s, ⟨⟨n0, cn⟩, cd, cc⟩, pi⟩ := c
  obtain ⟨hk, hc, hd, y1, y2, e⟩ := cStep_t h
  have n59 : τ 1 2064 ≤ 59 := by omega
  have w26 := (tWi_ok (τ := τ)).2.1 (tWi τ).toNat (by omega)
  have e12 : τ 0 12 ≠ 0 := by
    intro q
    exact absurd (w26.1 (by omega)) (by unfold tW; rw [q]; omega)
  have s13 := s.1.1.1.2.2.2.2.1 e12
  have L := snL_v (k := tWi τ) (τ := τ) ⟨n0, n59⟩
  have Lk := snL_k (k := tWi τ) s ⟨n0, n59⟩
  have fL : fS (tA (snL (tWi τ) τ)) τ := (fS_0 fT0_tA).trans L.2.2.2
  have cap : ∀ j, j = 22 ∨ j = 23 → tA (snL (tWi τ) τ) 0 j = snL (tWi τ) τ 0 j := fun j hj => by rw [tA_fr.2 j (by omega)]
  have c8 : tA (snL (tWi τ) τ) 8 = snL (tWi τ) τ 8 := tA_fr.1 8 (by omega)
  have c1 : tA (snL (tWi τ) τ) 1 = snL (tWi τ) τ 1 := tA_fr.1 1 (by omega)
  have m0' : τ 0 14 ≤ tA (snL (tWi τ) τ) 0 13 := by
    have t : tk1 (snL (tWi τ) τ) := tk1_1 (tk1_kst (tk1_up0 s.1.1 (by omega)) (by omega))
    have q := tA_m (tok_x0 t.1)
    have : snL (tWi τ) τ 0 14 = τ 0 14 := by unfold snL; rw [kup_x (by omega), kst_ne (by omega), kup_j (by omega)]
    omega
  have O := cOrd_G (k := tWi τ) (r := 2206 + 6 * τ 1 2064) Lk (by omega)
  have Om := cOrd_m (k := tWi τ) (r := 2206 + 6 * τ 1 2064) Lk (by omega) y1
  have vk : vN (tA (snL (tWi τ) τ)) (150 + 6 * τ 1 2064) = tWi τ := by rw [nv_tA]; exact L.2.1.1
  have V := nv_ord (i := 150 + 6 * τ 1 2064) y1 Lk (by omega) (by omega) ⟨hk.1, hk.2.1⟩ vk
  have k12 : tA (snL (tWi τ) τ) 1 2 = τ 1 2 ∧ tA (snL (tWi τ) τ) 1 3 = τ 1 3 := ⟨fL.2.2.1 2 (by omega), fL.2.2.1 3 (by omega)⟩
  rw [k12.1, k12.2, nv_tA] at V
  have t1 := O.2.1 y1
  have u22 : (cOrd (tWi τ) (2206 + 6 * τ 1 2064) (tA (snL (tWi τ) τ))).2 0 22 = τ 0 22 := by rw [O.1.2.1 22 (by omega), cap 22 (by omega)]; exact L.1.2.2.1
  have u23 : (cOrd (tWi τ) (2206 + 6 * τ 1 2064) (tA (snL (tWi τ) τ))).2 0 23 = τ 0 23 + if tWi τ = 22 then 0 else 1 := by rw [O.1.2.1 23 (by omega), cap 23 (by omega)]; exact L.1.2.1
  have u8 : (cOrd (tWi τ) (2206 + 6 * τ 1 2064) (tA (snL (tWi τ) τ))).2 8 = τ 8 := by rw [O.1.1 8 (by omega) (by omega) (by omega), c8]; exact L.1.2.2.2
  have un : vN (cOrd (tWi τ) (2206 + 6 * τ 1 2064) (tA (snL (tWi τ) τ))).2 8 = τ 1 2064 + 1 := by
    rw [V.1 8 (by omega)]; exact L.1.1
  have uj : ∀ j, 150 ≤ j → j < 150 + 6 * τ 1 2064 → vN (cOrd (tWi τ) (2206 + 6 * τ 1 2064) (tA (snL (tWi τ) τ))).2 j = vN τ j := fun j a b => by
    rw [V.1 j (by omega), L.2.2.1 j (by omega) (by omega)]
  have nmu : nmR (cOrd (tWi τ) (2206 + 6 * τ 1 2064) (tA (snL (tWi τ) τ))).2 := O.2.2.2 Lk.1.2
  have fu : fS (cOrd (tWi τ) (2206 + 6 * τ 1 2064) (tA (snL (tWi τ) τ))).2 τ := (fS_0 O.1).trans fL
  rw [e]
  generalize (cOrd (tWi τ) (2206 + 6 * τ 1 2064) (tA (snL (tWi τ) τ))).2 = u at *
  have ts := sOpn_tk (k := tWi τ) (n := τ 1 2064) t1
  have sg := cSign_G (k := 59) ts
  have sm := cSign_m (k := 59) ts y2
  have sv := nv_sign y2
  have s13' := sOpn_13 (k := tWi τ) (n := τ 1 2064) (u := u)
  have t13 := ts.1.2.1
  have r2 := sg.2.1 y2
  have open_ok : tWi τ = 22 → 0 < τ 0 22 ∧ 0 ≤ τ 8 (τ 0 22 - 1) ∧ τ 8 (τ 0 22 - 1) < τ 1 2064 := fun q => by
    have := hk.2.2 q
    have := (pi.2.1 (τ 0 22 - 1) (by omega) (by omega)).1
    omega
  have fO : fS (sOpn (tWi τ) (τ 1 2064) u) u := sOpn_f ⟨n0, n59⟩ (fun q => by
    have := open_ok q
    rw [u8, u22]; omega)
  have fAll : fS (cSign 59 (sOpn (tWi τ) (τ 1 2064) u)).2 τ := (fS_0 sg.1).trans (fO.trans fu)
  refine ⟨⟨⟨⟨r2, sg.2.2.2 (nm_same sOpn_2 nmu)⟩, by rw [fAll.2.2.1 2 (by omega)]; exact s.2.1, by rw [fAll.2.2.1 3 (by omega)]; exact s.2.2⟩, ?_⟩, fAll, by omega⟩
  have g22 : (cSign 59 (sOpn (tWi τ) (τ 1 2064) u)).2 0 22 = sOpn (tWi τ) (τ 1 2064) u 0 22 := sg.1.2.1 22 (by omega)
  have g23 : (cSign 59 (sOpn (tWi τ) (τ 1 2064) u)).2 0 23 = sOpn (tWi τ) (τ 1 2064) u 0 23 := sg.1.2.1 23 (by omega)
  have g8 : (cSign 59 (sOpn (tWi τ) (τ 1 2064) u)).2 8 = sOpn (tWi τ) (τ 1 2064) u 8 := sg.1.1 8 (by omega) (by omega) (by omega)
  have gn : (cSign 59 (sOpn (tWi τ) (τ 1 2064) u)).2 1 2064 = vN (sOpn (tWi τ) (τ 1 2064) u) 8 := by rw [← sv]; rfl
  rw [g22, g23, g8, gn, sv, fAll.2.2.1 2 (by omega), fAll.2.2.1 3 (by omega)]
  clear g22 g23 g8 gn sv fAll fO sg sm ts r2 s13' t13
  by_cases q1 : tWi τ = 20 ∨ tWi τ = 21
  · have hs : sOpn (tWi τ) (τ 1 2064) u = kup (kup u 8 (u 0 22) (τ 1 2064)) 0 22 (u 0 22 + 1) := by unfold sOpn; rw [if_pos q1]
    rw [hs]
    have v1 : vN (kup (kup u 8 (u 0 22) (τ 1 2064)) 0 22 (u 0 22 + 1)) = vN u := by unfold vN; rw [kup_o (x := 1) (by omega), kup_o (x := 1) (by omega)]
    have v22 : kup (kup u 8 (u 0 22) (τ 1 2064)) 0 22 (u 0 22 + 1) 0 22 = τ 0 22 + 1 := by rw [kup_at, u22]
    have v23 : kup (kup u 8 (u 0 22) (τ 1 2064)) 0 22 (u 0 22 + 1) 0 23 = τ 0 23 + 1 := by rw [kup_j (by omega), kup_x (by omega), u23, if_neg (by omega)]
    have v8 : kup (kup u 8 (u 0 22) (τ 1 2064)) 0 22 (u 0 22 + 1) 8 = ku (τ 8) (τ 0 22) (τ 1 2064) := by rw [kup_o (by omega), kup_k, kst_eq, u8, u22]
    rw [v1, v22, v23, v8, un]
    have := hc (by omega)
    have := hd q1
    have kind : pOp (vN u (150 + 6 * τ 1 2064)) := by
      unfold pOp
      rcases q1 with q | q
      · exact Or.inr (V.2.2.2.1 q)
      · exact Or.inl (by rw [V.2.2.1 (by omega)]; exact q)
    exact ⟨by omega, pI_new pi n0 (by omega) uj V.2.1 (pOp_22 kind) (fun i a b => ku_ne (by omega)) (Or.inr ⟨rfl, ku_eq, kind⟩)⟩
  by_cases q2 : tWi τ = 22
  · have hs : sOpn (tWi τ) (τ 1 2064) u = kup (kup (kup u 0 22 (u 0 22 - 1)) 1 (2206 + 6 * τ 1 2064 + 4) (u 8 (u 0 22 - 1))) 1 (2206 + 6 * u 8 (u 0 22 - 1) + 4) (τ 1 2064) := by unfold sOpn; rw [if_neg q1, if_pos q2]
    rw [hs, u22, u8]
    obtain ⟨o1, o2, o3⟩ := open_ok q2
    have hn1 := nv_up (τ := kup u 0 22 (τ 0 22 - 1)) (y := τ 8 (τ 0 22 - 1)) (i := 150 + 6 * τ 1 2064 + 4) (show 2206 + 6 * τ 1 2064 + 4 = 2056 + (150 + 6 * τ 1 2064 + 4) by omega)
    have hn2 := nv_up (τ := kup (kup u 0 22 (τ 0 22 - 1)) 1 (2206 + 6 * τ 1 2064 + 4) (τ 8 (τ 0 22 - 1))) (y := τ 1 2064) (i := 150 + 6 * τ 8 (τ 0 22 - 1) + 4) (show 2206 + 6 * τ 8 (τ 0 22 - 1) + 4 = 2056 + (150 + 6 * τ 8 (τ 0 22 - 1) + 4) by omega)
    have v0 : vN (kup u 0 22 (τ 0 22 - 1)) = vN u := by unfold vN; rw [kup_o (x := 1) (by omega)]
    rw [v0] at hn1
    have v22 : kup (kup (kup u 0 22 (τ 0 22 - 1)) 1 (2206 + 6 * τ 1 2064 + 4) (τ 8 (τ 0 22 - 1))) 1 (2206 + 6 * τ 8 (τ 0 22 - 1) + 4) (τ 1 2064) 0 22 = τ 0 22 - 1 := by rw [kup_x (by omega), kup_x (by omega), kup_at]
    have v23 : kup (kup (kup u 0 22 (τ 0 22 - 1)) 1 (2206 + 6 * τ 1 2064 + 4) (τ 8 (τ 0 22 - 1))) 1 (2206 + 6 * τ 8 (τ 0 22 - 1) + 4) (τ 1 2064) 0 23 = τ 0 23 := by rw [kup_x (by omega), kup_x (by omega), kup_j (by omega), u23, if_pos q2]; omega
    have v8 : kup (kup (kup u 0 22 (τ 0 22 - 1)) 1 (2206 + 6 * τ 1 2064 + 4) (τ 8 (τ 0 22 - 1))) 1 (2206 + 6 * τ 8 (τ 0 22 - 1) + 4) (τ 1 2064) 8 = τ 8 := by rw [kup_o (by omega), kup_o (by omega), kup_o (by omega), u8]
    rw [v22, v23, v8]
    generalize kup (kup (kup u 0 22 (τ 0 22 - 1)) 1 (2206 + 6 * τ 1 2064 + 4) (τ 8 (τ 0 22 - 1))) 1 (2206 + 6 * τ 8 (τ 0 22 - 1) + 4) (τ 1 2064) = m at *
    generalize kup (kup u 0 22 (τ 0 22 - 1)) 1 (2206 + 6 * τ 1 2064 + 4) (τ 8 (τ 0 22 - 1)) = m1 at *
    have mn : vN m 8 = τ 1 2064 + 1 := by rw [hn2.1 8 (by omega), hn1.1 8 (by omega)]; exact un
    rw [mn]
    refine ⟨by omega, pI_close pi o1 (fun j a b c => ?_) ?_ ?_ hn2.2⟩
    · rw [hn2.1 j c, hn1.1 j (by omega)]; exact uj j a b
    · rw [hn2.1 _ (by omega), hn1.1 _ (by omega), V.2.2.1 (by omega)]; exact q2
    · rw [hn2.1 _ (by omega)]; exact hn1.2
  · rw [sOpn_own (by omega), un, u22, u23, u8, if_neg q2]
    have := hc q2
    have kind : vN u (150 + 6 * τ 1 2064) = tWi τ := V.2.2.1 (by omega)
    exact ⟨by omega, pI_new pi n0 (by omega) uj V.2.1 (by rw [kind]; exact q2) (fun i a b => rfl) (Or.inl ⟨rfl, by rw [kind]; unfold pOp; omega⟩)⟩
