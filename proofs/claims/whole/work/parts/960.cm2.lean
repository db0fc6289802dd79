/-! seasons: combinators -/
abbrev sk0 (τ : Kmem) : Prop := tk3 τ ∧ (0 ≤ τ 1 2 ∧ τ 1 2 ≤ 6) ∧ (0 ≤ τ 1 3 ∧ τ 1 3 ≤ 8)
noncomputable def cKT (to : Int) (τ : Kmem) : Prop × Kmem := cOld 0 (τ 1 2) to τ
def tS3 (w : Kmem) : Prop := tSg w 60 ∨ tSg w 62 ∨ tSg w 61
noncomputable def cTe2 (k r : Int) (w : Kmem) : Prop × Kmem := kif (k = 26) (True, w) (kif (tS3 w) (cNum (r + 2) 0 9999 (tA (kup w 1 (r + 5) (w 0 15)))) (False, tF w 2))
noncomputable def cTest (r : Int) (τ : Kmem) : Prop × Kmem := kif (tWi τ < 24) (False, tF τ 2) (kif (tWi τ = 25) (cOld 6 (τ 1 3) (r + 1) (tA (kup τ 1 r (2000 + tWi τ)))) (cThen (cKT (r + 1) (tA (kup τ 1 r (2000 + tWi τ)))) (cTe2 (tWi τ) r)))
noncomputable def cOrd (k r : Int) (τ : Kmem) : Prop × Kmem := if k = 15 then cNum (r + 1) 1 3 τ else if k = 16 then cThen (cKT (r + 1) τ) (cNum (r + 2) 1 4) else if k = 17 ∨ k = 18 ∨ k = 19 then cKT (r + 1) τ else if k = 20 then cTest r τ else if k = 21 then cNum (r + 1) 1 99 τ else (True, τ)
theorem fT0_k {s t : Kmem} (h : fT0 s t) : s 1 2 = t 1 2 ∧ s 1 3 = t 1 3 := ⟨h.2.2.1 2 (by omega), h.2.2.1 3 (by omega)⟩
theorem cKT_G {τ : Kmem} {to : Int} (h : sk0 τ) (ht : 2056 ≤ to ∧ to < 2570) : cG (cKT to τ) τ := cOld_G h.1 ⟨by omega, ht⟩
theorem cTe2_G {w : Kmem} {k r : Int} (h : tk1 w) (hr : 2206 ≤ r ∧ r ≤ 2560) : cG (cTe2 k r w) w := by
  unfold cTe2
  by_cases e : k = 26
  · rw [kif_t e]; exact ⟨fT0.refl, fun _ => h, fun n => absurd trivial n, fun n => n⟩
  rw [kif_f e]
  by_cases e2 : tS3 w
  · rw [kif_t e2]
    have t := tA_k1 (tok_x0 (tk1_1 (j := r + 5) (y := w 0 15) h).1) (tk1_1 (j := r + 5) (y := w 0 15) h).2
    exact cG_via (cNum_G t (by omega)) (fT0_tA.trans (fT0_1 (by omega))) (fun n => nm_same (tA_fr.1 2 (by omega)) (nm_same (kup_o (by omega)) n))
  · rw [kif_f e2]; exact cG_fail h (by omega)
theorem test_u {τ : Kmem} {r : Int} (h : sk0 τ) (hr : 2206 ≤ r ∧ r ≤ 2560) : sk0 (tA (kup τ 1 r (2000 + tWi τ))) ∧ fT0 (tA (kup τ 1 r (2000 + tWi τ))) τ := by
  have f : fT0 (tA (kup τ 1 r (2000 + tWi τ))) τ := fT0_tA.trans (fT0_1 (by omega))
  have k := fT0_k f
  have t := tk1_1 (j := r) (y := 2000 + tWi τ) h.1.1
  have nn : nmR (tA (kup τ 1 r (2000 + tWi τ))) := nm_same (tA_fr.1 2 (by omega)) (nm_same (kup_o (by omega)) h.1.2)
  exact ⟨⟨⟨tA_k1 (tok_x0 t.1) t.2, nn⟩, by rw [k.1]; exact h.2.1, by rw [k.2]; exact h.2.2⟩, f⟩
theorem cTest_G {τ : Kmem} {r : Int} (h : sk0 τ) (hr : 2206 ≤ r ∧ r ≤ 2560) : cG (cTest r τ) τ := by
  unfold cTest
  by_cases e : tWi τ < 24
  · rw [kif_t e]; exact cG_fail h.1.1 (by omega)
  rw [kif_f e]
  obtain ⟨u, f⟩ := test_u h hr
  have nn : nmR τ → nmR (tA (kup τ 1 r (2000 + tWi τ))) := fun _ => u.1.2
  by_cases e2 : tWi τ = 25
  · rw [kif_t e2]
    exact cG_via (cOld_G u.1 ⟨by omega, by omega⟩) f nn
  · rw [kif_f e2]
    refine cG_via (cThen_G (cKT_G u (by omega)) (fun y => cTe2_G ((cKT_G u (by omega)).2.1 y) hr)) f nn
theorem cOrd_G {τ : Kmem} {k r : Int} (h : sk0 τ) (hr : 2206 ≤ r ∧ r ≤ 2560) : cG (cOrd k r τ) τ := by
  unfold cOrd
  split
  · exact cNum_G h.1.1 (by omega)
  split
  · have g := cKT_G h (to := r + 1) (by omega)
    exact cThen_G g (fun y => cNum_G (g.2.1 y) (by omega))
  split
  · exact cKT_G h (by omega)
  split
  · exact cTest_G h hr
  split
  · exact cNum_G h.1.1 (by omega)
  · exact ⟨fT0.refl, fun _ => h.1.1, fun n => absurd trivial n, fun n => n⟩
/-- a line's words, without its partner -/
def pL0 (w : Int → Int) (a b i : Int) : Prop := ((15 ≤ w i ∧ w i ≤ 23 ∧ w i ≠ 20) ∨ (2024 ≤ w i ∧ w i ≤ 2026)) ∧ (w i = 15 → 1 ≤ w (i + 1) ∧ w (i + 1) ≤ 3) ∧ ((16 ≤ w i ∧ w i ≤ 19) ∨ w i = 2024 ∨ w i = 2026 → 0 ≤ w (i + 1) ∧ w (i + 1) < a) ∧ (w i = 16 → 1 ≤ w (i + 2) ∧ w (i + 2) ≤ 4) ∧ (w i = 2025 → 0 ≤ w (i + 1) ∧ w (i + 1) < b) ∧ (w i = 2024 → (0 ≤ w (i + 2) ∧ w (i + 2) ≤ 9999) ∧ (60 ≤ w (i + 5) ∧ w (i + 5) ≤ 62)) ∧ (w i = 21 → 1 ≤ w (i + 1) ∧ w (i + 1) ≤ 99)
theorem tFi_r {τ : Kmem} {a b : Int} (h : tFi τ a b ≠ -1) (hb : 0 ≤ b) : 0 ≤ tFi τ a b ∧ tFi τ a b < b := by
  unfold tFi at *
  rcases fst_r (p := fun k => τ 2 (a + k) = tNm τ) (b.toNat) 0 with z | z
  · exact absurd z h
  · omega
theorem nv_KT {τ : Kmem} {to i : Int} (h : (cKT to τ).1) (s : sk0 τ) (ht : to = 2056 + i) : (∀ j, j ≠ i → vN (cKT to τ).2 j = vN τ j) ∧ 0 ≤ vN (cKT to τ).2 i ∧ vN (cKT to τ).2 i < τ 1 2 := by
  have o := nv_old (a := 0) (b := τ 1 2) h ht
  have E : cOld 0 (τ 1 2) to τ = cKT to τ := rfl
  rw [E] at o
  have := tFi_r o.2.2 s.2.1.1
  exact ⟨o.1, by rw [o.2.1]; exact this⟩
theorem nv_test {τ : Kmem} {r i : Int} (h : (cTest r τ).1) (s : sk0 τ) (hi : r = 2056 + i) (hr : 2206 ≤ r ∧ r ≤ 2560) : (∀ j, (j < i ∨ i + 6 ≤ j) → vN (cTest r τ).2 j = vN τ j) ∧ pL0 (vN (cTest r τ).2) (τ 1 2) (τ 1 3) i ∧ 2024 ≤ vN (cTest r τ).2 i ∧ vN (cTest r τ).2 (i + 4) = vN τ (i + 4) := by
  have w26 := (tWi_ok (τ := τ)).1
  have e : cTest r τ = kif (tWi τ < 24) (False, tF τ 2) (kif (tWi τ = 25) (cOld 6 (τ 1 3) (r + 1) (tA (kup τ 1 r (2000 + tWi τ)))) (cThen (cKT (r + 1) (tA (kup τ 1 r (2000 + tWi τ)))) (cTe2 (tWi τ) r))) := rfl
  by_cases c1 : tWi τ < 24
  · rw [kif_t c1] at e; rw [e] at h; exact h.elim
  rw [kif_f c1] at e
  obtain ⟨u, f⟩ := test_u s hr
  have k := fT0_k f
  have n0 := nv_up (τ := τ) (y := 2000 + tWi τ) hi
  rw [← nv_tA (τ := kup τ 1 r (2000 + tWi τ))] at n0
  by_cases c2 : tWi τ = 25
  · rw [kif_t c2] at e
    rw [e] at h
    have o := nv_old (i := i + 1) h (by omega)
    have := tFi_r o.2.2 s.2.2.1
    rw [e]
    refine ⟨fun j hj => (o.1 j (by omega)).trans (n0.1 j (by omega)), ?_, by rw [o.1 i (by omega), n0.2]; omega, by rw [o.1 (i + 4) (by omega), n0.1 (i + 4) (by omega)]⟩
    have vi : vN (cOld 6 (τ 1 3) (r + 1) (tA (kup τ 1 r (2000 + tWi τ)))).2 i = 2025 := by rw [o.1 i (by omega), n0.2]; omega
    unfold pL0
    rw [vi, o.2.1]
    refine ⟨by omega, by omega, by omega, by omega, fun _ => this, by omega, by omega⟩
  rw [kif_f c2] at e
  rw [e] at h
  obtain ⟨a1, b1, e1⟩ := cThen_y h
  rw [e, e1]
  have o := nv_KT (i := i + 1) a1 u (by omega)
  rw [k.1] at o
  generalize (cKT (r + 1) (tA (kup τ 1 r (2000 + tWi τ)))).2 = w at *
  clear e e1 h a1
  by_cases c3 : tWi τ = 26
  · have e : cTe2 (tWi τ) r w = (True, w) := kif_t c3
    rw [e]
    have vi : vN w i = 2026 := by rw [o.1 i (by omega), n0.2]; omega
    refine ⟨fun j hj => (o.1 j (by omega)).trans (n0.1 j (by omega)), ?_, by rw [vi]; omega, by rw [o.1 (i + 4) (by omega), n0.1 (i + 4) (by omega)]⟩
    unfold pL0
    rw [vi]
    refine ⟨by omega, by omega, fun _ => o.2, by omega, by omega, by omega, by omega⟩
  · have e : cTe2 (tWi τ) r w = kif (tS3 w) (cNum (r + 2) 0 9999 (tA (kup w 1 (r + 5) (w 0 15)))) (False, tF w 2) := kif_f c3
    by_cases c4 : tS3 w
    rotate_left
    · rw [kif_f c4] at e; rw [e] at b1; exact b1.elim
    rw [kif_t c4] at e
    rw [e] at b1 ⊢
    have m := nv_num (i := i + 2) b1 (by omega)
    have n1 := nv_up (τ := w) (y := w 0 15) (i := i + 5) (show r + 5 = 2056 + (i + 5) by omega)
    rw [← nv_tA (τ := kup w 1 (r + 5) (w 0 15))] at n1
    have v15 : 60 ≤ w 0 15 ∧ w 0 15 ≤ 62 := by
      rcases c4 with c | c | c <;> have := c.2 <;> omega
    have same : ∀ j, j ≠ i → j ≠ i + 1 → j ≠ i + 2 → j ≠ i + 5 → vN (cNum (r + 2) 0 9999 (tA (kup w 1 (r + 5) (w 0 15)))).2 j = vN τ j := fun j h0 h1 h2 h5 => by rw [m.1 j h2, n1.1 j h5, o.1 j h1, n0.1 j h0]
    have vi : vN (cNum (r + 2) 0 9999 (tA (kup w 1 (r + 5) (w 0 15)))).2 i = 2024 := by rw [m.1 i (by omega), n1.1 i (by omega), o.1 i (by omega), n0.2]; omega
    refine ⟨fun j hj => same j (by omega) (by omega) (by omega) (by omega), ?_, by rw [vi]; omega, same _ (by omega) (by omega) (by omega) (by omega)⟩
    have v1 : vN (cNum (r + 2) 0 9999 (tA (kup w 1 (r + 5) (w 0 15)))).2 (i + 1) = vN w (i + 1) := by rw [m.1 _ (by omega), n1.1 _ (by omega)]
    have v5 : vN (cNum (r + 2) 0 9999 (tA (kup w 1 (r + 5) (w 0 15)))).2 (i + 5) = w 0 15 := by rw [m.1 _ (by omega), n1.2]
    unfold pL0
    rw [vi, v1, v5]
    refine ⟨by omega, by omega, fun _ => o.2, by omega, by omega, fun _ => ⟨m.2, v15⟩, by omega⟩
theorem nv_ord {τ : Kmem} {k r i : Int} (h : (cOrd k r τ).1) (s : sk0 τ) (hi : r = 2056 + i) (hr : 2206 ≤ r ∧ r ≤ 2560) (hk : 15 ≤ k ∧ k ≤ 23) (vk : vN τ i = k) : (∀ j, (j < i ∨ i + 6 ≤ j) → vN (cOrd k r τ).2 j = vN τ j) ∧ pL0 (vN (cOrd k r τ).2) (τ 1 2) (τ 1 3) i ∧ (k ≠ 20 → vN (cOrd k r τ).2 i = k) ∧ (k = 20 → 2024 ≤ vN (cOrd k r τ).2 i) ∧ vN (cOrd k r τ).2 (i + 4) = vN τ (i + 4) := by
  have hk' : k = 15 ∨ k = 16 ∨ (k = 17 ∨ k = 18 ∨ k = 19) ∨ k = 20 ∨ k = 21 ∨ (k = 22 ∨ k = 23) := by omega
  rcases hk' with q | q | q | q | q | q
  · have e : cOrd k r τ = cNum (r + 1) 1 3 τ := by unfold cOrd; rw [if_pos q]
    rw [e] at h ⊢
    have m := nv_num (i := i + 1) h (by omega)
    have vi := m.1 i (by omega)
    refine ⟨fun j hj => m.1 j (by omega), ?_, fun _ => by omega, by omega, m.1 _ (by omega)⟩
    unfold pL0
    rw [vi, vk]
    exact ⟨by omega, fun _ => m.2, by omega, by omega, by omega, by omega, by omega⟩
  · have e : cOrd k r τ = cThen (cKT (r + 1) τ) (cNum (r + 2) 1 4) := by unfold cOrd; rw [if_neg (by omega), if_pos q]
    rw [e] at h
    obtain ⟨a1, b1, e1⟩ := cThen_y h
    rw [e, e1]
    have o := nv_KT (i := i + 1) a1 s (by omega)
    have m := nv_num (i := i + 2) b1 (by omega)
    have vi : vN (cNum (r + 2) 1 4 (cKT (r + 1) τ).2).2 i = k := by rw [m.1 i (by omega), o.1 i (by omega)]; exact vk
    have v1 := m.1 (i + 1) (by omega)
    refine ⟨fun j hj => (m.1 j (by omega)).trans (o.1 j (by omega)), ?_, fun _ => vi, by omega, (m.1 _ (by omega)).trans (o.1 _ (by omega))⟩
    unfold pL0
    rw [vi, v1]
    exact ⟨by omega, by omega, fun _ => o.2, fun _ => m.2, by omega, by omega, by omega⟩
  · have e : cOrd k r τ = cKT (r + 1) τ := by unfold cOrd; rw [if_neg (by omega), if_neg (by omega), if_pos q]
    rw [e] at h ⊢
    have o := nv_KT (i := i + 1) h s (by omega)
    have vi := o.1 i (by omega)
    refine ⟨fun j hj => o.1 j (by omega), ?_, fun _ => by omega, by omega, o.1 _ (by omega)⟩
    unfold pL0
    rw [vi, vk]
    exact ⟨by omega, by omega, fun _ => o.2, by omega, by omega, by omega, by omega⟩
  · have e : cOrd k r τ = cTest r τ := by unfold cOrd; rw [if_neg (by omega), if_neg (by omega), if_neg (by omega), if_pos q]
    rw [e] at h ⊢
    have o := nv_test h s hi hr
    exact ⟨o.1, o.2.1, fun n => absurd q n, fun _ => o.2.2.1, o.2.2.2⟩
  · have e : cOrd k r τ = cNum (r + 1) 1 99 τ := by unfold cOrd; rw [if_neg (by omega), if_neg (by omega), if_neg (by omega), if_neg (by omega), if_pos q]
    rw [e] at h ⊢
    have m := nv_num (i := i + 1) h (by omega)
    have vi := m.1 i (by omega)
    refine ⟨fun j hj => m.1 j (by omega), ?_, fun _ => by omega, by omega, m.1 _ (by omega)⟩
    unfold pL0
    rw [vi, vk]
    exact ⟨by omega, by omega, by omega, by omega, by omega, by omega, fun _ => m.2⟩
  · have e : cOrd k r τ = (True, τ) := by unfold cOrd; rw [if_neg (by omega), if_neg (by omega), if_neg (by omega), if_neg (by omega), if_neg (by omega)]
    rw [e]
    refine ⟨fun j _ => rfl, ?_, fun _ => vk, by omega, rfl⟩
    unfold pL0
    rw [vk]
    exact ⟨by omega, by omega, by omega, by omega, by omega, by omega, by omega⟩
