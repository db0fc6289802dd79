/-! a part that was read leaves a county -/
theorem nv_land {τ : Kmem} (h : (cLand τ).1) : (∀ j, j ≠ 0 → j ≠ 1 → vN (cLand τ).2 j = vN τ j) ∧ (1 ≤ vN (cLand τ).2 0 ∧ vN (cLand τ).2 0 ≤ 9) ∧ 1 ≤ vN (cLand τ).2 1 ∧ vN (cLand τ).2 1 ≤ 7 := by
  obtain ⟨a1, b1, e1⟩ := cThen_y h
  obtain ⟨a2, b2, e2⟩ := cThen_y b1
  have E : (cLand τ).2 = (cNum 2057 1 7 (cWord 7 (cNum 2056 1 9 (tA τ)).2).2).2 := congrArg Prod.snd (e1.trans e2)
  clear e1 e2
  have n1 := nv_num (i := 0) a1 (by omega)
  have w := nv_word a2
  have n2 := nv_num (i := 1) b2 (by omega)
  rw [nv_tA] at n1
  rw [w] at n2
  rw [E]
  refine ⟨fun j h0 h1 => (n2.1 j h1).trans (n1.1 j h0), ?_, n2.2⟩
  rw [n2.1 0 (by omega)]; exact n1.2
theorem nv_wind {τ : Kmem} (h : (cWind τ).1) : ∃ x, (0 ≤ x ∧ x ≤ 11) ∧ (∀ j, j ≠ 510 → j ≠ 10 + 2 * x → j ≠ 10 + 2 * x + 1 → vN (cWind τ).2 j = vN τ j) ∧ (0 ≤ vN (cWind τ).2 (10 + 2 * x) ∧ vN (cWind τ).2 (10 + 2 * x) ≤ 7) ∧ 0 ≤ vN (cWind τ).2 (10 + 2 * x + 1) ∧ vN (cWind τ).2 (10 + 2 * x + 1) ≤ 3 := by
  obtain ⟨a1, b1, e1⟩ := cThen_y h
  obtain ⟨a2, b2, e2⟩ := cThen_y b1
  have E := congrArg Prod.snd (e1.trans e2)
  have E' : (cThen (cNum 2566 0 11 (tA τ)) (fun u => cThen (cNum (2066 + 2 * u 1 2566) 0 7 u) (fun w => cNum (2066 + 2 * u 1 2566 + 1) 0 3 w))).2 = (cWind τ).2 := rfl
  rw [E'] at E
  clear e1 e2 E'
  have n1 := nv_num (i := 510) a1 (by omega)
  rw [nv_tA] at n1
  have q : (cNum 2566 0 11 (tA τ)).2 1 2566 = vN (cNum 2566 0 11 (tA τ)).2 510 := rfl
  have n2 := nv_num (i := 10 + 2 * vN (cNum 2566 0 11 (tA τ)).2 510) a2 (by omega)
  have n3 := nv_num (i := 10 + 2 * vN (cNum 2566 0 11 (tA τ)).2 510 + 1) b2 (by omega)
  rw [E]
  refine ⟨vN (cNum 2566 0 11 (tA τ)).2 510, n1.2, fun j h0 h1 h2 => ?_, ?_, n3.2⟩
  · rw [n3.1 j h2, n2.1 j h1, n1.1 j h0]
  · rw [n3.1 _ (by omega)]; exact n2.2
theorem nv_kite {τ : Kmem} {i : Int} (h : (cKite τ).1) (hi : i = 34 + 9 * vN τ 2) (hk : 0 ≤ vN τ 2) : vN τ 2 ≠ 6 ∧ (∀ j, j ≠ 2 → (j < i ∨ i + 4 < j) → j ≠ i + 7 → vN (cKite τ).2 j = vN τ j) ∧ vN (cKite τ).2 2 = vN τ 2 + 1 ∧ (0 ≤ vN (cKite τ).2 i ∧ vN (cKite τ).2 i < vN τ 0) ∧ (0 ≤ vN (cKite τ).2 (i + 1) ∧ vN (cKite τ).2 (i + 1) < vN τ 1) ∧ (0 ≤ vN (cKite τ).2 (i + 2) ∧ vN (cKite τ).2 (i + 2) ≤ 2) ∧ (0 ≤ vN (cKite τ).2 (i + 3) ∧ vN (cKite τ).2 (i + 3) ≤ 9) ∧ (0 ≤ vN (cKite τ).2 (i + 4) ∧ vN (cKite τ).2 (i + 4) ≤ 3) ∧ (vN (cKite τ).2 (i + 7) = vN τ (i + 7) ∨ (0 ≤ vN (cKite τ).2 (i + 7) ∧ vN (cKite τ).2 (i + 7) ≤ 7)) := by
  obtain ⟨a1, b1, e1⟩ := cThen_y h
  obtain ⟨a2, b2, e2⟩ := cThen_y b1
  have E : (cKite τ).2 = (cKit2 (2090 + 9 * τ 1 2058) (kKit (cFld (2090 + 9 * τ 1 2058) (cNew 2 6 0 τ).2).2 (2090 + 9 * τ 1 2058))).2 := congrArg Prod.snd (e1.trans e2)
  clear e1 e2
  have q : τ 1 2058 = vN τ 2 := rfl
  have ne : vN τ 2 ≠ 6 := (cNew_v a1).1.1
  have w := nv_new a1
  have n1 := nv_fld (i := i) a2 (by omega) (by omega)
  have n2 := nv_kit2 (i := i) b2 (by omega) (by omega)
  rw [w] at n1
  rw [E]
  have k1 := nv_up (τ := (cFld (2090 + 9 * τ 1 2058) (cNew 2 6 0 τ).2).2) (y := 1) (i := i + 2) (show 2090 + 9 * τ 1 2058 + 2 = 2056 + (i + 2) by omega)
  have k2 := nv_up (τ := kup (cFld (2090 + 9 * τ 1 2058) (cNew 2 6 0 τ).2).2 1 (2090 + 9 * τ 1 2058 + 2) 1) (y := 3) (i := i + 3) (show 2090 + 9 * τ 1 2058 + 3 = 2056 + (i + 3) by omega)
  have k3 := nv_up (τ := kup (kup (cFld (2090 + 9 * τ 1 2058) (cNew 2 6 0 τ).2).2 1 (2090 + 9 * τ 1 2058 + 2) 1) 1 (2090 + 9 * τ 1 2058 + 3) 3) (y := 1) (i := i + 4) (show 2090 + 9 * τ 1 2058 + 4 = 2056 + (i + 4) by omega)
  change (∀ j, _ → vN (kKit _ _) j = _) ∧ vN (kKit (cFld (2090 + 9 * τ 1 2058) (cNew 2 6 0 τ).2).2 (2090 + 9 * τ 1 2058)) (i + 4) = 1 at k3
  generalize vN (kup (kup (cFld (2090 + 9 * τ 1 2058) (cNew 2 6 0 τ).2).2 1 (2090 + 9 * τ 1 2058 + 2) 1) 1 (2090 + 9 * τ 1 2058 + 3) 3) = w2 at *
  generalize vN (kup (cFld (2090 + 9 * τ 1 2058) (cNew 2 6 0 τ).2).2 1 (2090 + 9 * τ 1 2058 + 2) 1) = w1 at *
  generalize (kKit (cFld (2090 + 9 * τ 1 2058) (cNew 2 6 0 τ).2).2 (2090 + 9 * τ 1 2058)) = m3 at *
  generalize vN (cKit2 (2090 + 9 * τ 1 2058) m3).2 = w4 at *
  generalize vN m3 = w3 at *
  generalize vN (cFld (2090 + 9 * τ 1 2058) (cNew 2 6 0 τ).2).2 = w0 at *
  obtain ⟨f1, f2, f3⟩ := n1
  obtain ⟨g1, g2, g3, g4, g5, g6⟩ := n2
  have s : ∀ j, j ≠ i + 2 → j ≠ i + 3 → j ≠ i + 4 → w3 j = w0 j := fun j a b c => (k3.1 j c).trans ((k2.1 j b).trans (k1.1 j a))
  refine ⟨ne, fun j h2 hr h7 => ?_, ?_, ?_, ?_, ?_, ?_, ?_, ?_⟩
  · rw [g1 j (by omega) (by omega) (by omega) h7 h2, s j (by omega) (by omega) (by omega), f1 j (by omega) (by omega)]
  · rw [g2, s 2 (by omega) (by omega) (by omega), f1 2 (by omega) (by omega)]
  · rw [g1 i (by omega) (by omega) (by omega) (by omega) (by omega), s i (by omega) (by omega) (by omega)]; exact f2
  · rw [g1 (i + 1) (by omega) (by omega) (by omega) (by omega) (by omega), s (i + 1) (by omega) (by omega) (by omega)]; exact f3
  · have : w3 (i + 2) = 1 := by rw [k3.1 _ (by omega), k2.1 _ (by omega)]; exact k1.2
    omega
  · have : w3 (i + 3) = 3 := by rw [k3.1 _ (by omega)]; exact k2.2
    omega
  · have := k3.2
    omega
  · rw [s (i + 7) (by omega) (by omega) (by omega), f1 (i + 7) (by omega) (by omega)] at g6; exact g6
theorem nv_inc {τ : Kmem} {to i : Int} (ht : to = 2056 + i) : (∀ j, j ≠ i → vN (kInc τ to) j = vN τ j) ∧ vN (kInc τ to) i = vN τ i + 1 := by
  unfold kInc
  have := nv_up (τ := τ) (y := τ 1 to + 1) ht
  refine ⟨this.1, this.2.trans ?_⟩
  rw [ht]; rfl
theorem nv_crop {τ : Kmem} {i : Int} (h : (cCrop τ).1) (hi : i = 88 + 4 * vN τ 3) (hk : 0 ≤ vN τ 3) : vN τ 3 ≠ 8 ∧ (∀ j, j ≠ 3 → (j < i ∨ i + 2 < j) → vN (cCrop τ).2 j = vN τ j) ∧ vN (cCrop τ).2 3 = vN τ 3 + 1 ∧ (0 ≤ vN (cCrop τ).2 i ∧ vN (cCrop τ).2 i < vN τ 0) ∧ (0 ≤ vN (cCrop τ).2 (i + 1) ∧ vN (cCrop τ).2 (i + 1) < vN τ 1) ∧ (1 ≤ vN (cCrop τ).2 (i + 2) ∧ vN (cCrop τ).2 (i + 2) ≤ 99) := by
  obtain ⟨a1, b1, e1⟩ := cThen_y h
  obtain ⟨a2, b2, e2⟩ := cThen_y b1
  obtain ⟨a3, b3, e3⟩ := cThen_y b2
  obtain ⟨a4, b4, e4⟩ := cThen_y b3
  have E : (cCrop τ).2 = kInc (cNum (2144 + 4 * τ 1 2059 + 2) 1 99 (cWord 13 (cFld (2144 + 4 * τ 1 2059) (cNew 3 8 6 τ).2).2).2).2 2059 := congrArg Prod.snd (e1.trans (e2.trans (e3.trans e4)))
  clear e1 e2 e3 e4
  have q : τ 1 2059 = vN τ 3 := rfl
  have ne : vN τ 3 ≠ 8 := (cNew_v a1).1.1
  have w := nv_new a1
  have n1 := nv_fld (i := i) a2 (by omega) (by omega)
  have w3 := nv_word a3
  have n2 := nv_num (i := i + 2) a4 (by omega)
  have n3 := nv_inc (τ := (cNum (2144 + 4 * τ 1 2059 + 2) 1 99 (cWord 13 (cFld (2144 + 4 * τ 1 2059) (cNew 3 8 6 τ).2).2).2).2) (i := 3) (show (2059 : Int) = 2056 + 3 by rfl)
  rw [w] at n1
  rw [w3] at n2
  rw [E]
  obtain ⟨f1, f2, f3⟩ := n1
  obtain ⟨g1, g2⟩ := n2
  obtain ⟨p1, p2⟩ := n3
  refine ⟨ne, fun j h2 hr => ?_, ?_, ?_, ?_, ?_⟩
  · rw [p1 j h2, g1 j (by omega), f1 j (by omega) (by omega)]
  · rw [p2, g1 3 (by omega), f1 3 (by omega) (by omega)]
  · rw [p1 i (by omega), g1 i (by omega)]; exact f2
  · rw [p1 (i + 1) (by omega), g1 (i + 1) (by omega)]; exact f3
  · rw [p1 (i + 2) (by omega)]; exact g2
theorem nv_ten {τ : Kmem} {i : Int} (h : (cTen τ).1) (hi : i = 120 + 5 * vN τ 4) (hk : 0 ≤ vN τ 4) (h2 : 0 ≤ vN τ 2) : vN τ 4 ≠ 6 ∧ (∀ j, j ≠ 4 → (j < i ∨ i + 2 < j) → vN (cTen τ).2 j = vN τ j) ∧ vN (cTen τ).2 4 = vN τ 4 + 1 ∧ (0 ≤ vN (cTen τ).2 i ∧ vN (cTen τ).2 i < vN τ 0) ∧ (0 ≤ vN (cTen τ).2 (i + 1) ∧ vN (cTen τ).2 (i + 1) < vN τ 1) ∧ (0 ≤ vN (cTen τ).2 (i + 2) ∧ vN (cTen τ).2 (i + 2) < vN τ 2) := by
  obtain ⟨a1, b1, e1⟩ := cThen_y h
  obtain ⟨a2, b2, e2⟩ := cThen_y b1
  obtain ⟨a3, b3, e3⟩ := cThen_y b2
  obtain ⟨a4, b4, e4⟩ := cThen_y b3
  have E : (cTen τ).2 = kInc (cOld 80 ((cWord 14 (cFld (2176 + 5 * τ 1 2060) (cNew 4 6 14 τ).2).2).2 1 2058) (2176 + 5 * τ 1 2060 + 2) (cWord 14 (cFld (2176 + 5 * τ 1 2060) (cNew 4 6 14 τ).2).2).2).2 2060 := congrArg Prod.snd (e1.trans (e2.trans (e3.trans e4)))
  clear e1 e2 e3 e4
  have q : τ 1 2060 = vN τ 4 := rfl
  have ne : vN τ 4 ≠ 6 := (cNew_v a1).1.1
  have w := nv_new a1
  have n1 := nv_fld (i := i) a2 (by omega) (by omega)
  have w3 := nv_word a3
  have n2 := nv_old (i := i + 2) a4 (by omega)
  have n3 := nv_inc (τ := (cOld 80 ((cWord 14 (cFld (2176 + 5 * τ 1 2060) (cNew 4 6 14 τ).2).2).2 1 2058) (2176 + 5 * τ 1 2060 + 2) (cWord 14 (cFld (2176 + 5 * τ 1 2060) (cNew 4 6 14 τ).2).2).2).2) (i := 4) (show (2060 : Int) = 2056 + 4 by rfl)
  rw [w] at n1
  rw [w3] at n2
  rw [E]
  obtain ⟨f1, f2, f3⟩ := n1
  obtain ⟨g1, g2, g3⟩ := n2
  obtain ⟨p1, p2⟩ := n3
  have q2 : (cWord 14 (cFld (2176 + 5 * τ 1 2060) (cNew 4 6 14 τ).2).2).2 1 2058 = vN τ 2 := by
    rw [← f1 2 (by omega) (by omega), ← w3]; rfl
  refine ⟨ne, fun j h2 hr => ?_, ?_, ?_, ?_, ?_⟩
  · rw [p1 j h2, g1 j (by omega), f1 j (by omega) (by omega)]
  · rw [p2, g1 4 (by omega), f1 4 (by omega) (by omega)]
  · rw [p1 i (by omega), g1 i (by omega)]; exact f2
  · rw [p1 (i + 1) (by omega), g1 (i + 1) (by omega)]; exact f3
  · rw [p1 (i + 2) (by omega), g2]
    rw [q2] at g3
    rw [q2]
    unfold tFi at *
    rcases fst_r (p := fun k => (cWord 14 (cFld (2176 + 5 * τ 1 2060) (cNew 4 6 14 τ).2).2).2 2 (80 + k) = tNm (cWord 14 (cFld (2176 + 5 * τ 1 2060) (cNew 4 6 14 τ).2).2).2) ((vN τ 2).toNat) 0 with z | z
    · exact absurd z g3
    · omega
theorem cz_same {u v : Int → Int} {T T' : Int} (h : cz v T) (eT : T' % 2 = T % 2) (e : ∀ j, j < 150 → j ≠ 5 → j ≠ 6 → u j = v j) (h5 : 0 ≤ u 5 ∧ u 5 ≤ 11) (h6 : 0 ≤ u 6 ∧ u 6 ≤ 2) : cz u T' := by
  obtain ⟨w, hT, z, h7, h8⟩ := h
  have wh := w.1
  have r2 := wh.2.1
  have r3 := wh.2.2.1
  have r4 := wh.2.2.2.1
  obtain ⟨wK, wC, wT⟩ := (wf_rows.1 w).2.2
  have e2 := e 2 (by omega) (by omega) (by omega)
  have e3 := e 3 (by omega) (by omega) (by omega)
  have e4 := e 4 (by omega) (by omega) (by omega)
  have e0 := e 0 (by omega) (by omega) (by omega)
  have e1 := e 1 (by omega) (by omega) (by omega)
  have e7 := e 7 (by omega) (by omega) (by omega)
  refine ⟨wf_rows.2 ⟨?_, wfW_eq w.2.1 (fun j a b => e j (by omega) (by omega) (by omega)), fun k a b => rK_eq (wK k a (by omega)) (fun d _ _ => e _ (by omega) (by omega) (by omega)) e0 e1, fun k a b => rC_eq (wC k a (by omega)) (fun d _ _ => e _ (by omega) (by omega) (by omega)) e0 e1, fun k a b => rT_eq (wT k a (by omega)) (fun d _ _ => e _ (by omega) (by omega) (by omega)) e0 e1 (by omega)⟩, ?_, ⟨fun k a b => ?_, fun k a b => ?_, fun k a b => ?_⟩, by omega, by rw [e 8 (by omega) (by omega) (by omega)]; exact h8⟩
  · unfold wfH at *; rw [e0, e1, e2, e3, e4, e7]; exact ⟨wh.1, wh.2.1, wh.2.2.1, wh.2.2.2.1, h5, h6, wh.2.2.2.2.2.2⟩
  · rw [eT, e0, e2, e3, e4]; exact hT
  · rw [e _ (by omega) (by omega) (by omega), e _ (by omega) (by omega) (by omega), e _ (by omega) (by omega) (by omega), e _ (by omega) (by omega) (by omega)]
    exact z.1 k (by omega) b
  · rw [e _ (by omega) (by omega) (by omega)]
    exact z.2.1 k (by omega) b
  · rw [e _ (by omega) (by omega) (by omega), e _ (by omega) (by omega) (by omega)]
    exact z.2.2 k (by omega) b
theorem cz_land {τ : Kmem} {T T' : Int} (c : cz (vN τ) T) (h : (cLand τ).1) (hT : T % 2 = 0) (hT' : T' % 2 ≠ 0) : cz (vN (cLand τ).2) T' := by
  obtain ⟨w, t, z, h7, h8⟩ := c
  have wh := w.1
  have r2 := wh.2.1
  have r3 := wh.2.2.1
  have r4 := wh.2.2.2.1
  obtain ⟨t0, t2, t3, t4⟩ := t.1 hT
  obtain ⟨e, v0, v1⟩ := nv_land h
  generalize vN (cLand τ).2 = u at *
  generalize vN τ = v at *
  have e2 := e 2 (by omega) (by omega)
  have e3 := e 3 (by omega) (by omega)
  have e4 := e 4 (by omega) (by omega)
  have e7 := e 7 (by omega) (by omega)
  refine ⟨wf_rows.2 ⟨?_, wfW_eq w.2.1 (fun j a b => e j (by omega) (by omega)), fun k a b => by omega, fun k a b => by omega, fun k a b => by omega⟩, ⟨fun q => absurd q hT', fun _ => by omega⟩, ⟨fun k a b => ?_, fun k a b => ?_, fun k a b => ?_⟩, by omega, by rw [e 8 (by omega) (by omega)]; exact h8⟩
  · unfold wfH at *
    rw [e2, e3, e4, e7, e 5 (by omega) (by omega), e 6 (by omega) (by omega)]
    exact ⟨by omega, wh.2⟩
  · rw [e _ (by omega) (by omega), e _ (by omega) (by omega), e _ (by omega) (by omega), e _ (by omega) (by omega)]
    exact z.1 k (by omega) b
  · rw [e _ (by omega) (by omega)]
    exact z.2.1 k (by omega) b
  · rw [e _ (by omega) (by omega), e _ (by omega) (by omega)]
    exact z.2.2 k (by omega) b
theorem cz_wind {τ : Kmem} {T : Int} (c : cz (vN τ) T) (h : (cWind τ).1) : cz (vN (cWind τ).2) T := by
  obtain ⟨w, t, z, h7, h8⟩ := c
  have wh := w.1
  have r2 := wh.2.1
  have r3 := wh.2.2.1
  have r4 := wh.2.2.2.1
  obtain ⟨wW, wK, wC, wT⟩ := (wf_rows.1 w).2
  obtain ⟨x, hx, e, v0, v1⟩ := nv_wind h
  generalize vN (cWind τ).2 = u at *
  generalize vN τ = v at *
  have e2 := e 2 (by omega) (by omega) (by omega)
  have e3 := e 3 (by omega) (by omega) (by omega)
  have e4 := e 4 (by omega) (by omega) (by omega)
  have e0 := e 0 (by omega) (by omega) (by omega)
  have e1 := e 1 (by omega) (by omega) (by omega)
  have e7 := e 7 (by omega) (by omega) (by omega)
  refine ⟨wf_rows.2 ⟨?_, fun k a b => ?_, fun k a b => rK_eq (wK k a (by omega)) (fun d _ _ => e _ (by omega) (by omega) (by omega)) e0 e1, fun k a b => rC_eq (wC k a (by omega)) (fun d _ _ => e _ (by omega) (by omega) (by omega)) e0 e1, fun k a b => rT_eq (wT k a (by omega)) (fun d _ _ => e _ (by omega) (by omega) (by omega)) e0 e1 (by omega)⟩, ?_, ⟨fun k a b => ?_, fun k a b => ?_, fun k a b => ?_⟩, by omega, by rw [e 8 (by omega) (by omega) (by omega)]; exact h8⟩
  · unfold wfH at *
    rw [e0, e1, e2, e3, e4, e7, e 5 (by omega) (by omega) (by omega), e 6 (by omega) (by omega) (by omega)]
    exact wh
  · by_cases q : k = x
    · rw [q]; exact ⟨v0, v1⟩
    · rw [e _ (by omega) (by omega) (by omega), e _ (by omega) (by omega) (by omega)]
      exact wW k a b
  · rw [e0, e2, e3, e4]; exact t
  · rw [e _ (by omega) (by omega) (by omega), e _ (by omega) (by omega) (by omega), e _ (by omega) (by omega) (by omega), e _ (by omega) (by omega) (by omega)]
    exact z.1 k (by omega) b
  · rw [e _ (by omega) (by omega) (by omega)]
    exact z.2.1 k (by omega) b
  · rw [e _ (by omega) (by omega) (by omega), e _ (by omega) (by omega) (by omega)]
    exact z.2.2 k (by omega) b
theorem cz_kite {τ : Kmem} {T : Int} (c : cz (vN τ) T) (h : (cKite τ).1) (hT : T % 2 ≠ 0) : cz (vN (cKite τ).2) T := by
  obtain ⟨w, t, z, h7, h8⟩ := c
  have wh := w.1
  have r2 := wh.2.1
  have r3 := wh.2.2.1
  have r4 := wh.2.2.2.1
  obtain ⟨wW, wK, wC, wT⟩ := (wf_rows.1 w).2
  obtain ⟨ne, e, i2, k0, k1, k2, k3, k4, k7⟩ := nv_kite (i := 34 + 9 * vN τ 2) h rfl r2.1
  generalize vN (cKite τ).2 = u at *
  generalize vN τ = v at *
  have e3 := e 3 (by omega) (by omega) (by omega)
  have e4 := e 4 (by omega) (by omega) (by omega)
  have e0 := e 0 (by omega) (by omega) (by omega)
  have e1 := e 1 (by omega) (by omega) (by omega)
  have e7 := e 7 (by omega) (by omega) (by omega)
  have zr := z.1 (v 2) (by omega) (by omega)
  have e5' := e (34 + 9 * v 2 + 5) (by omega) (by omega) (by omega)
  have e8' := e (34 + 9 * v 2 + 8) (by omega) (by omega) (by omega)
  refine ⟨wf_rows.2 ⟨?_, wfW_eq wW (fun j a b => e j (by omega) (by omega) (by omega)), fun k a b => ?_, fun k a b => rC_eq (wC k a (by omega)) (fun d _ _ => e _ (by omega) (by omega) (by omega)) e0 e1, fun k a b => rT_eq (wT k a (by omega)) (fun d _ _ => e _ (by omega) (by omega) (by omega)) e0 e1 (by omega)⟩, ⟨fun q => absurd q hT, fun q => by rw [e0]; exact t.2 q⟩, ⟨fun k a b => ?_, fun k a b => ?_, fun k a b => ?_⟩, by omega, by rw [e 8 (by omega) (by omega) (by omega)]; exact h8⟩
  · unfold wfH at *
    rw [e0, e1, i2, e3, e4, e7, e 5 (by omega) (by omega) (by omega), e 6 (by omega) (by omega) (by omega)]
    exact ⟨wh.1, by omega, wh.2.2⟩
  · by_cases q : k = v 2
    · rw [q]
      unfold rK
      rw [e0, e1, e5', e8', zr.1.1, zr.2.2]
      have := zr.2.1
      exact ⟨k0, k1, k2, k3, k4, by omega, by omega, Or.inl rfl⟩
    · exact rK_eq (wK k a (by omega)) (fun d _ _ => e _ (by omega) (by omega) (by omega)) e0 e1
  · rw [e _ (by omega) (by omega) (by omega), e _ (by omega) (by omega) (by omega), e _ (by omega) (by omega) (by omega), e _ (by omega) (by omega) (by omega)]
    exact z.1 k (by omega) b
  · rw [e _ (by omega) (by omega) (by omega)]
    exact z.2.1 k (by omega) b
  · rw [e _ (by omega) (by omega) (by omega), e _ (by omega) (by omega) (by omega)]
    exact z.2.2 k (by omega) b
theorem cz_crop {τ : Kmem} {T : Int} (c : cz (vN τ) T) (h : (cCrop τ).1) (hT : T % 2 ≠ 0) : cz (vN (cCrop τ).2) T := by
  obtain ⟨w, t, z, h7, h8⟩ := c
  have wh := w.1
  have r2 := wh.2.1
  have r3 := wh.2.2.1
  have r4 := wh.2.2.2.1
  obtain ⟨wW, wK, wC, wT⟩ := (wf_rows.1 w).2
  obtain ⟨ne, e, i2, k0, k1, k2⟩ := nv_crop (i := 88 + 4 * vN τ 3) h rfl r3.1
  generalize vN (cCrop τ).2 = u at *
  generalize vN τ = v at *
  have e2 := e 2 (by omega) (by omega)
  have e4 := e 4 (by omega) (by omega)
  have e0 := e 0 (by omega) (by omega)
  have e1 := e 1 (by omega) (by omega)
  have e7 := e 7 (by omega) (by omega)
  have zr := z.2.1 (v 3) (by omega) (by omega)
  have e5' := e (88 + 4 * v 3 + 3) (by omega) (by omega)
  refine ⟨wf_rows.2 ⟨?_, wfW_eq wW (fun j a b => e j (by omega) (by omega)), fun k a b => rK_eq (wK k a (by omega)) (fun d _ _ => e _ (by omega) (by omega)) e0 e1, fun k a b => ?_, fun k a b => rT_eq (wT k a (by omega)) (fun d _ _ => e _ (by omega) (by omega)) e0 e1 (by omega)⟩, ⟨fun q => absurd q hT, fun q => by rw [e0]; exact t.2 q⟩, ⟨fun k a b => ?_, fun k a b => ?_, fun k a b => ?_⟩, by omega, by rw [e 8 (by omega) (by omega)]; exact h8⟩
  · unfold wfH at *
    rw [e0, e1, i2, e2, e4, e7, e 5 (by omega) (by omega), e 6 (by omega) (by omega)]
    exact ⟨wh.1, wh.2.1, by omega, wh.2.2.2⟩
  · by_cases q : k = v 3
    · rw [q]
      unfold rC
      rw [e0, e1, e5', zr]
      exact ⟨k0, k1, k2, by omega⟩
    · exact rC_eq (wC k a (by omega)) (fun d _ _ => e _ (by omega) (by omega)) e0 e1
  · rw [e _ (by omega) (by omega), e _ (by omega) (by omega), e _ (by omega) (by omega), e _ (by omega) (by omega)]
    exact z.1 k (by omega) b
  · rw [e _ (by omega) (by omega)]
    exact z.2.1 k (by omega) b
  · rw [e _ (by omega) (by omega), e _ (by omega) (by omega)]
    exact z.2.2 k (by omega) b
theorem cz_ten {τ : Kmem} {T : Int} (c : cz (vN τ) T) (h : (cTen τ).1) (hT : T % 2 ≠ 0) : cz (vN (cTen τ).2) T := by
  obtain ⟨w, t, z, h7, h8⟩ := c
  have wh := w.1
  have r2 := wh.2.1
  have r3 := wh.2.2.1
  have r4 := wh.2.2.2.1
  obtain ⟨wW, wK, wC, wT⟩ := (wf_rows.1 w).2
  obtain ⟨ne, e, i2, k0, k1, k2⟩ := nv_ten (i := 120 + 5 * vN τ 4) h rfl r4.1 r2.1
  generalize vN (cTen τ).2 = u at *
  generalize vN τ = v at *
  have e2 := e 2 (by omega) (by omega)
  have e3 := e 3 (by omega) (by omega)
  have e0 := e 0 (by omega) (by omega)
  have e1 := e 1 (by omega) (by omega)
  have e7 := e 7 (by omega) (by omega)
  refine ⟨wf_rows.2 ⟨?_, wfW_eq wW (fun j a b => e j (by omega) (by omega)), fun k a b => rK_eq (wK k a (by omega)) (fun d _ _ => e _ (by omega) (by omega)) e0 e1, fun k a b => rC_eq (wC k a (by omega)) (fun d _ _ => e _ (by omega) (by omega)) e0 e1, fun k a b => ?_⟩, ⟨fun q => absurd q hT, fun q => by rw [e0]; exact t.2 q⟩, ⟨fun k a b => ?_, fun k a b => ?_, fun k a b => ?_⟩, by omega, by rw [e 8 (by omega) (by omega)]; exact h8⟩
  · unfold wfH at *
    rw [e0, e1, i2, e2, e3, e7, e 5 (by omega) (by omega), e 6 (by omega) (by omega)]
    exact ⟨wh.1, wh.2.1, wh.2.2.1, by omega, wh.2.2.2.2⟩
  · by_cases q : k = v 4
    · rw [q]
      unfold rT
      rw [e0, e1, e2]
      exact ⟨k0, k1, k2⟩
    · exact rT_eq (wT k a (by omega)) (fun d _ _ => e _ (by omega) (by omega)) e0 e1 (by omega)
  · rw [e _ (by omega) (by omega), e _ (by omega) (by omega), e _ (by omega) (by omega), e _ (by omega) (by omega)]
    exact z.1 k (by omega) b
  · rw [e _ (by omega) (by omega)]
    exact z.2.1 k (by omega) b
  · rw [e _ (by omega) (by omega), e _ (by omega) (by omega)]
    exact z.2.2 k (by omega) b
theorem cz_same_all {u v : Int → Int} {T : Int} (h : cz v T) (e : ∀ j, 0 ≤ j → j < 150 → u j = v j) : cz u T := by
  have E : ∀ j, 0 ≤ j → j < 150 → u j = v j := e
  obtain ⟨w, hT, z, h7, h8⟩ := h
  have wh := w.1
  have r2 := wh.2.1
  have r3 := wh.2.2.1
  have r4 := wh.2.2.2.1
  obtain ⟨wK, wC, wT⟩ := (wf_rows.1 w).2.2
  have e2 := e 2 (by omega) (by omega)
  have e3 := e 3 (by omega) (by omega)
  have e4 := e 4 (by omega) (by omega)
  have e0 := e 0 (by omega) (by omega)
  have e1 := e 1 (by omega) (by omega)
  have e7 := e 7 (by omega) (by omega)
  refine ⟨wf_rows.2 ⟨?_, wfW_eq w.2.1 (fun j a b => e j (by omega) (by omega)), fun k a b => rK_eq (wK k a (by omega)) (fun d _ _ => e _ (by omega) (by omega)) e0 e1, fun k a b => rC_eq (wC k a (by omega)) (fun d _ _ => e _ (by omega) (by omega)) e0 e1, fun k a b => rT_eq (wT k a (by omega)) (fun d _ _ => e _ (by omega) (by omega)) e0 e1 (by omega)⟩, ?_, ⟨fun k a b => ?_, fun k a b => ?_, fun k a b => ?_⟩, by omega, by rw [e 8 (by omega) (by omega)]; exact h8⟩
  · unfold wfH at *; rw [e0, e1, e2, e3, e4, e7, e 5 (by omega) (by omega), e 6 (by omega) (by omega)]; exact wh
  · rw [e0, e2, e3, e4]; exact hT
  · rw [e _ (by omega) (by omega), e _ (by omega) (by omega), e _ (by omega) (by omega), e _ (by omega) (by omega)]
    exact z.1 k (by omega) b
  · rw [e _ (by omega) (by omega)]
    exact z.2.1 k (by omega) b
  · rw [e _ (by omega) (by omega), e _ (by omega) (by omega)]
    exact z.2.2 k (by omega) b
