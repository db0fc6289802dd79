theorem wf_r {v : Int → Int} (h : wf v) : rI (v 0) ∧ rI (v 1) ∧ rI (v 2) ∧ rI (v 3) ∧ rI (v 4) ∧ rI (v 5) ∧ rI (v 6) ∧ rI (v 7) := by
  obtain ⟨⟨h1, h2, h3, h4, h5, h6, h7⟩, -⟩ := h
  refine ⟨⟨?_, ?_⟩, ⟨?_, ?_⟩, ⟨?_, ?_⟩, ⟨?_, ?_⟩, ⟨?_, ?_⟩, ⟨?_, ?_⟩, ⟨?_, ?_⟩, ?_, ?_⟩ <;> omega
theorem mul_bd {a b A B : Int} (h1 : 0 ≤ a ∧ a ≤ A) (h2 : 0 ≤ b ∧ b ≤ B) : 0 ≤ a * b ∧ a * b ≤ A * B :=
  ⟨Int.mul_nonneg h1.1 h2.1, Int.mul_le_mul h1.2 h2.2 h2.1 (by omega)⟩
theorem P_X12_isTray {G : Kg} {σ : Kmem} {l0 : Int} (p : rI l0) : Run G WM M_X12_isTray 0 0 0 [vI l0] σ (fun r s => r = kb (0 ≤ l0 ∧ l0 < 4) ∧ s = σ) := by
  refine S_X12_isTray ?_
  (repeat' (first | apply And.intro | intro)) <;> first | exact rfl | exact (kb_0 (by omega)).symm | exact (kb_1 (by omega)).symm | omega | assumption
theorem P_X12_isFrom {G : Kg} {σ : Kmem} {l0 l2 l4 : Int} (p : rL l0 ∧ rL l2 ∧ rL l4) : Run G WM M_X12_isFrom 0 0 0 [vL l0, vL l2, vL l4] σ (fun r s => r = kb (l2 ≤ l0 ∧ l0 ≤ l4) ∧ s = σ) := by
  obtain ⟨p1, p2, p3⟩ := p
  refine S_X12_isFrom ?_
  (repeat' (first | apply And.intro | intro)) <;> first | exact rfl | exact (kb_0 (by omega)).symm | exact (kb_1 (by omega)).symm | omega | assumption
theorem P_X12_isSmall {G : Kg} {σ : Kmem} {l0 : Int} (p : rI l0) : Run G WM M_X12_isSmall 0 0 0 [vI l0] σ (fun r s => r = kb (97 ≤ l0 ∧ l0 ≤ 122) ∧ s = σ) := by
  refine S_X12_isSmall ?_
  (repeat' (first | apply And.intro | intro)) <;> first | exact rfl | exact (kb_0 (by omega)).symm | exact (kb_1 (by omega)).symm | omega | assumption
theorem P_X12_isDigit {G : Kg} {σ : Kmem} {l0 : Int} (p : rI l0) : Run G WM M_X12_isDigit 0 0 0 [vI l0] σ (fun r s => r = kb (48 ≤ l0 ∧ l0 ≤ 57) ∧ s = σ) := by
  refine S_X12_isDigit ?_
  (repeat' (first | apply And.intro | intro)) <;> first | exact rfl | exact (kb_0 (by omega)).symm | exact (kb_1 (by omega)).symm | omega | assumption
theorem P_X12_isKite {G : Kg} {σ : Kmem} {l1 : Int} (p : rI l1 ∧ wf (σ 1)) : Run G WM M_X12_isKite 0 0 0 [vA G 0, vI l1] σ (fun r s => r = kb (0 ≤ l1 ∧ l1 < σ 1 2) ∧ s = σ) := by
  have w := wf_r p.2
  obtain ⟨p, -⟩ := p
  refine S_X12_isKite ?_
  (repeat' (first | apply And.intro | intro)) <;> first | exact rfl | exact (kb_0 (by omega)).symm | exact (kb_1 (by omega)).symm | omega | assumption
theorem P_X12_isCrop {G : Kg} {σ : Kmem} {l1 : Int} (p : rI l1 ∧ wf (σ 1)) : Run G WM M_X12_isCrop 0 0 0 [vA G 0, vI l1] σ (fun r s => r = kb (0 ≤ l1 ∧ l1 < σ 1 3) ∧ s = σ) := by
  have w := wf_r p.2
  obtain ⟨p, -⟩ := p
  refine S_X12_isCrop ?_
  (repeat' (first | apply And.intro | intro)) <;> first | exact rfl | exact (kb_0 (by omega)).symm | exact (kb_1 (by omega)).symm | omega | assumption
theorem P_X12_isTenant {G : Kg} {σ : Kmem} {l1 : Int} (p : rI l1 ∧ wf (σ 1)) : Run G WM M_X12_isTenant 0 0 0 [vA G 0, vI l1] σ (fun r s => r = kb (0 ≤ l1 ∧ l1 < σ 1 4) ∧ s = σ) := by
  have w := wf_r p.2
  obtain ⟨p, -⟩ := p
  refine S_X12_isTenant ?_
  (repeat' (first | apply And.intro | intro)) <;> first | exact rfl | exact (kb_0 (by omega)).symm | exact (kb_1 (by omega)).symm | omega | assumption
theorem P_X12_isRow {G : Kg} {σ : Kmem} {l1 : Int} (p : rI l1 ∧ wf (σ 1)) : Run G WM M_X12_isRow 0 0 0 [vA G 0, vI l1] σ (fun r s => r = kb (0 ≤ l1 ∧ l1 < σ 1 1) ∧ s = σ) := by
  have w := wf_r p.2
  obtain ⟨p, -⟩ := p
  refine S_X12_isRow ?_
  (repeat' (first | apply And.intro | intro)) <;> first | exact rfl | exact (kb_0 (by omega)).symm | exact (kb_1 (by omega)).symm | omega | assumption
theorem P_X12_isField {G : Kg} {σ : Kmem} {l1 l2 : Int} (p : (rI l1 ∧ rI l2) ∧ wf (σ 1)) : Run G WM M_X12_isField 0 0 0 [vA G 0, vI l1, vI l2] σ (fun r s => r = kb (sFld (σ 1) l1 l2) ∧ s = σ) := by
  have w := wf_r p.2
  obtain ⟨p, -⟩ := p
  obtain ⟨p1, p2⟩ := p
  refine S_X12_isField ?_
  (repeat' (first | apply And.intro | intro)) <;> first | exact rfl | exact (kb_0 (by omega)).symm | exact (kb_1 (by omega)).symm | omega | assumption
theorem P_X12_isHour {G : Kg} {σ : Kmem} {l0 : Int} (p : rI l0) : Run G WM M_X12_isHour 0 0 0 [vI l0] σ (fun r s => r = kb (0 ≤ l0 ∧ l0 < 12) ∧ s = σ) := by
  refine S_X12_isHour ?_
  (repeat' (first | apply And.intro | intro)) <;> first | exact rfl | exact (kb_0 (by omega)).symm | exact (kb_1 (by omega)).symm | omega | assumption
theorem P_X12_isIn {G : Kg} {σ : Kmem} {l1 l2 : Int} (p : (0 ≤ l1 ∧ l1 < 65536) ∧ 0 ≤ l2 ∧ l2 < 31) : Run G WM M_X12_isIn 0 0 0 [vA G 0, vI l1, vI l2] σ (fun r s => r = kb (sIn l1 l2) ∧ s = σ) := by
  refine S_X12_isIn ?_
  rw [kin_bit p.1 p.2]
  refine ⟨kb_r _, fun h => ⟨?_, rfl⟩, fun h => ⟨?_, rfl⟩⟩
  · rcases kb_01 (sIn l1 l2) with q | q
    · exact q.symm
    · exact absurd q h
  · exact h.symm
theorem P_X12_isCut {G : Kg} {σ : Kmem} {l1 : Int} (p : wf (σ 1) ∧ sKt (σ 1) l1) : Run G WM M_X12_isCut 2 0 0 [vA G 0, vI l1] σ (fun r s => r = kb (σ 1 (34 + 9 * l1 + 8) = 1) ∧ s = σ) := by
  obtain ⟨w, k⟩ := p
  have w1 := w.1
  have a := w.2.2.1 l1 k.1 k.2
  obtain ⟨⟨_, _, _, _, _⟩, ⟨_, _⟩, _⟩ := w1
  obtain ⟨_, _⟩ := k
  refine S_X12_isCut ?_
  (repeat' (first | apply And.intro | intro)) <;> first | exact rfl | exact (kb_0 (by omega)).symm | exact (kb_1 (by omega)).symm | omega | assumption
theorem P_X12_isBorne {G : Kg} {σ : Kmem} {l1 l2 : Int} (p : wf (σ 1) ∧ sKt (σ 1) l1 ∧ sHr l2) : Run G WM M_X12_isBorne 2 0 0 [vA G 0, vI l1, vI l2] σ (fun r s => r = kb (sBorne (σ 1) l1 l2) ∧ s = σ) := by
  obtain ⟨w, k, hh⟩ := p
  have w1 := w.1
  have a := w.2.2.1 l1 k.1 k.2
  have b := w.2.1 l2 hh.1 hh.2
  obtain ⟨⟨_, _, _, _, _⟩, ⟨_, _⟩, _⟩ := w1
  obtain ⟨_, _⟩ := k
  obtain ⟨_, _⟩ := hh
  unfold sBorne
  refine S_X12_isBorne ?_
  (repeat' (first | apply And.intro | intro)) <;> first | exact rfl | exact (kb_0 (by omega)).symm | exact (kb_1 (by omega)).symm | omega | assumption
theorem P_X12_isRipe {G : Kg} {σ : Kmem} {l1 : Int} (p : wf (σ 1) ∧ 0 ≤ l1 ∧ l1 < σ 1 3) : Run G WM M_X12_isRipe 1 0 0 [vA G 0, vI l1] σ (fun r s => r = kb (σ 1 (88 + 4 * l1 + 2) ≤ σ 1 (88 + 4 * l1 + 3)) ∧ s = σ) := by
  obtain ⟨w, k1, k2⟩ := p
  have w1 := w.1
  have a := w.2.2.2.1 l1 k1 k2
  obtain ⟨_, _, ⟨_, _⟩, _⟩ := w1
  refine S_X12_isRipe ?_
  (repeat' (first | apply And.intro | intro)) <;> first | exact rfl | exact (kb_0 (by omega)).symm | exact (kb_1 (by omega)).symm | omega | assumption
theorem P_X12_turned {G : Kg} {σ : Kmem} {l1 l2 : Int} (p : wf (σ 1) ∧ sKt (σ 1) l1 ∧ sHr l2) : Run G WM M_X12_turned 2 0 0 [vA G 0, vI l1, vI l2] σ (fun r s => r = sTrn (σ 1) l1 l2 ∧ s = σ) := by
  obtain ⟨w, k, hh⟩ := p
  have w1 := w.1
  have a := w.2.2.1 l1 k.1 k.2
  have b := w.2.1 l2 hh.1 hh.2
  obtain ⟨⟨_, _, _, _, _⟩, ⟨_, _⟩, _⟩ := w1
  obtain ⟨_, _⟩ := k
  obtain ⟨_, _⟩ := hh
  refine S_X12_turned ⟨?_, ?_, ?_, rfl, rfl⟩ <;> omega
theorem P_X12_farFrom {G : Kg} {σ : Kmem} {l1 l2 : Int} (p : wf (σ 1) ∧ sKt (σ 1) l1 ∧ sHr l2) : Run G WM M_X12_farFrom 2 0 0 [vA G 0, vI l1, vI l2] σ (fun r s => r = sFar (σ 1) l1 l2 ∧ s = σ) := by
  obtain ⟨w, k, hh⟩ := p
  have w1 := w.1
  have a := w.2.2.1 l1 k.1 k.2
  have b := w.2.1 l2 hh.1 hh.2
  obtain ⟨⟨_, _, _, _, _⟩, ⟨_, _⟩, _⟩ := w1
  obtain ⟨_, _⟩ := k
  obtain ⟨_, _⟩ := hh
  have m := mul_bd (a := σ 1 (34 + 9 * l1 + 3)) (b := σ 1 (10 + 2 * l2 + 1)) (A := 9) (B := 3) (by omega) (by omega)
  refine S_X12_farFrom ⟨?_, ?_, ?_, rfl, rfl⟩ <;> omega
theorem P_X12_now {G : Kg} {σ : Kmem} (p : wf (σ 1)) : Run G WM M_X12_now 0 0 0 [vA G 0] σ (fun r s => r = σ 1 7 % 12 ∧ s = σ) := by
  have w := p.1.2.2.2.2.2.2
  exact S_X12_now ⟨by omega, rfl, rfl⟩
theorem sTrn_r {v : Int → Int} {k h : Int} : 0 ≤ sTrn v k h ∧ sTrn v k h < 8 := by unfold sTrn; omega
theorem sDx_r {d : Int} : -1 ≤ sDx d ∧ sDx d ≤ 1 := by unfold sDx; split <;> (try split) <;> omega
theorem sDy_r {d : Int} : -1 ≤ sDy d ∧ sDy d ≤ 1 := by unfold sDy; split <;> (try split) <;> omega
theorem sFar_r {v : Int → Int} {k h : Int} (w : wf v) (hk : sKt v k) (hh : sHr h) : 0 ≤ sFar v k h ∧ sFar v k h ≤ 9 := by
  have a := w.2.2.1 k hk.1 hk.2
  have b := w.2.1 h hh.1 hh.2
  have m := mul_bd (a := v (34 + 9 * k + 3)) (b := v (10 + 2 * h + 1)) (A := 9) (B := 3) (by omega) (by omega)
  unfold sFar
  omega
theorem mul_sgn {f d : Int} (h1 : 0 ≤ f ∧ f ≤ 9) (h2 : -1 ≤ d ∧ d ≤ 1) : -9 ≤ f * d ∧ f * d ≤ 9 := by
  rcases (show d = -1 ∨ d = 0 ∨ d = 1 by omega) with rfl | rfl | rfl <;> omega
theorem sCol_r {v : Int → Int} {k h : Int} (w : wf v) (hk : sKt v k) (hh : sHr h) : -9 ≤ sCol v k h ∧ sCol v k h ≤ 17 := by
  have a := w.2.2.1 k hk.1 hk.2
  have b := w.1.1
  have m := mul_sgn (sFar_r w hk hh) (sDx_r (d := sTrn v k h))
  unfold sCol
  omega
theorem sRow_r {v : Int → Int} {k h : Int} (w : wf v) (hk : sKt v k) (hh : sHr h) : -9 ≤ sRow v k h ∧ sRow v k h ≤ 15 := by
  have a := w.2.2.1 k hk.1 hk.2
  have b := w.1.1
  have m := mul_sgn (sFar_r w hk hh) (sDy_r (d := sTrn v k h))
  unfold sRow
  omega
theorem sSz_r {v : Int → Int} {k h : Int} (w : wf v) (hk : sKt v k) : 0 ≤ sSz v k h ∧ sSz v k h ≤ 2 := by
  have a := w.2.2.1 k hk.1 hk.2
  unfold sSz
  split <;> omega
theorem kabs_r {a : Int} : 0 ≤ kabs a := by unfold kabs; split <;> omega
theorem kabs_u {a b : Int} (h : -b ≤ a ∧ a ≤ b) : kabs a ≤ b := by unfold kabs; split <;> omega
