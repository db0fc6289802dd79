/-! the reference reads the pieces of a county -/
theorem P_X12_newOne {G : Kg} {σ : Kmem} {a b c : Int} (p : tk2 σ ∧ pNew a b c) : Run G WM M_X12_newOne 6 0 0 [vA G 0, vI a, vI b, vI c] σ (fun x s => x = kb ((cNew a b c σ).1) ∧ s = (cNew a b c σ).2) := by
  obtain ⟨⟨h1, hn, hc⟩, pn⟩ := p
  have t := tA_k1 (tok_x0 h1.1) h1.2
  have nA : nmR (tA σ) := nm_same (tA_fr.1 2 (by omega)) hn
  have eA : tA σ 1 = σ 1 := tA_fr.1 1 (by omega)
  obtain ⟨c1, c2, c3, c4⟩ := hc
  have ra : (0 ≤ a ∧ a ≤ 4) ∧ (0 ≤ b ∧ b ≤ 8) ∧ (0 ≤ c ∧ c ≤ 14) ∧ (0 ≤ σ 1 (2056 + a) ∧ σ 1 (2056 + a) ≤ 8) := by
    rcases pn with ⟨rfl, rfl, rfl⟩ | ⟨rfl, rfl, rfl⟩ | ⟨rfl, rfl, rfl⟩ <;> (simp only [Int.reduceAdd]; omega)
  have f1 := fst_r (p := fun k => tA σ 2 (80 + k) = tNm (tA σ)) (tA σ 1 2058).toNat 0
  have f2 := fst_r (p := fun k => tA σ 2 (86 + k) = tNm (tA σ)) (tA σ 1 2059).toNat 0
  have f3 := fst_r (p := fun k => tA σ 2 (94 + k) = tNm (tA σ)) (tA σ 1 2060).toNat 0
  have g1 : rI (tFi (tA σ) 80 (tA σ 1 2058)) := by unfold tFi; rw [eA] at f1 ⊢; omega
  have g2 : rI (tFi (tA σ) 86 (tA σ 1 2059)) := by unfold tFi; rw [eA] at f2 ⊢; omega
  have g3 : rI (tFi (tA σ) 94 (tA σ 1 2060)) := by unfold tFi; rw [eA] at f3 ⊢; omega
  have b0 : kb False = 0 := kb_0 (fun y => y)
  have b1 : kb True = 1 := kb_1 trivial
  unfold cNew
  refine S_X12_newOne ⟨by omega, by omega, by omega, fun ne => ⟨tok_x0 h1.1, t.1, fun nk => ⟨⟨⟨t.1, nk.1, nk.2.1⟩, nA, by rw [eA]; omega⟩, g1, fun y => ⟨⟨t.1, by rw [t.2]; omega⟩, ?_⟩, fun n1 => ⟨⟨⟨t.1, nk.1, nk.2.1⟩, nA, by rw [eA]; omega⟩, g2, fun y => ⟨⟨t.1, by rw [t.2]; omega⟩, ?_⟩, fun n2 => ⟨⟨⟨t.1, nk.1, nk.2.1⟩, nA, by rw [eA]; omega⟩, g3, fun n3 => ⟨by omega, ⟨t.1, nk.1, nk.2.1⟩, by rw [eA]; omega, fun m33 e33 => ?_⟩, fun y => ⟨⟨t.1, by rw [t.2]; omega⟩, ?_⟩⟩⟩⟩, fun nk => ⟨⟨t.1, by rw [t.2]; omega⟩, ?_⟩⟩, fun e => ⟨⟨h1.1, by omega⟩, ?_⟩⟩
  · rw [kif_f ne, kif_t nk, kif_t (show tFd (tA σ) from Or.inl y)]; exact ⟨b0.symm, rfl⟩
  · rw [kif_f ne, kif_t nk, kif_t (show tFd (tA σ) from Or.inr (Or.inl y))]; exact ⟨b0.symm, rfl⟩
  · rw [kif_f ne, kif_t nk, kif_f (fun q => by rcases q with q | q | q; exact q n1; exact q n2; exact q n3), e33]
    exact ⟨tok_x0 (tok_2 t.1), b1.symm, rfl⟩
  · rw [kif_f ne, kif_t nk, kif_t (show tFd (tA σ) from Or.inr (Or.inr y))]; exact ⟨b0.symm, rfl⟩
  · rw [kif_f ne, kif_f nk]; exact ⟨b0.symm, rfl⟩
  · rw [kif_t e]; exact ⟨b0.symm, rfl⟩
theorem P_X12_oldOne {G : Kg} {σ : Kmem} {a b c : Int} (p : tk3 σ ∧ pOld a b c) : Run G WM M_X12_oldOne 6 0 0 [vA G 0, vI a, vI b, vI c] σ (fun x s => x = kb ((cOld a b c σ).1) ∧ s = (cOld a b c σ).2) := by
  obtain ⟨⟨h1, hn⟩, pb, pc⟩ := p
  have f1 := fst_r (p := fun k => σ 2 (a + k) = tNm σ) b.toNat 0
  have g1 : rI (tFi σ a b) := by unfold tFi; omega
  have b0 : kb False = 0 := kb_0 (fun y => y)
  have b1 : kb True = 1 := kb_1 trivial
  unfold cOld
  refine S_X12_oldOne ⟨h1.1, fun nk => ⟨⟨⟨h1.1, nk.1, nk.2.1⟩, hn, pb⟩, by omega, fun m8 e8 => ?_⟩, fun nk => ⟨⟨h1.1, by omega⟩, ?_⟩⟩
  · have ev : m8 1 c = tFi σ a b := by rw [e8, kup_at]
    have tk : tk1 m8 := by rw [e8]; exact tk1_1 h1
    rw [ev, kif_t nk]
    refine ⟨by omega, g1, fun ne => ⟨tok_x0 tk.1, ?_⟩, fun e => ⟨⟨tk.1, by rw [tk.2]; omega⟩, ?_⟩⟩
    · rw [kif_f ne, e8]; exact ⟨b1.symm, rfl⟩
    · rw [kif_t e, e8]; exact ⟨b0.symm, rfl⟩
  · rw [kif_f nk]; exact ⟨b0.symm, rfl⟩
theorem kbF : (0 : Int) = kb False := (kb_0 (fun y => y)).symm
theorem kbT : (1 : Int) = kb True := (kb_1 trivial).symm
theorem kbN {P : Prop} (h : ¬ P) : (0 : Int) = kb P := (kb_0 h).symm
theorem kbY {P : Prop} (h : P) : (1 : Int) = kb P := (kb_1 h).symm
theorem P_X12_fieldTo {G : Kg} {σ : Kmem} {to : Int} (p : tk2 σ ∧ 2090 ≤ to ∧ to < 2500) : Run G WM M_X12_fieldTo 6 0 0 [vA G 0, vI to] σ (fun x s => x = kb ((cFld to σ).1) ∧ s = (cFld to σ).2) := by
  obtain ⟨⟨h1, hn, hc⟩, ht⟩ := p
  obtain ⟨⟨c0, c1⟩, -⟩ := hc
  unfold cFld
  refine S_X12_fieldTo ⟨⟨h1, by decide⟩, fun n => ?_, fun e => ?_⟩
  · rw [cThen_f n]; exact ⟨kbF, rfl⟩
  rw [cThen_t e]
  have h2 := (cWord_G (k := 8) h1).2.1 e
  have w1 : (cWord 8 σ).2 1 = σ 1 := by rw [(cWord_v e).2, tA_fr.1 1 (by omega)]
  refine ⟨⟨h2, by omega, by decide, by rw [w1]; omega⟩, fun n => ?_, fun e2 => ?_⟩
  · rw [cThen_f n]; exact ⟨kbF, rfl⟩
  rw [cThen_t e2]
  have h3 := (cNum_G (lo := 0) (hi := (cWord 8 σ).2 1 2056 - 1) h2 (show 2056 ≤ to ∧ to < 2570 by omega)).2.1 e2
  obtain ⟨x, hx, -, v1, -⟩ := cNum_v e2
  refine ⟨⟨h3, by omega, by decide, by rw [v1, ku_ne (by omega), w1]; omega⟩, fun n => ?_, fun e3 => ?_⟩
  · exact ⟨kbN n, rfl⟩
  · exact ⟨kbY e3, rfl⟩
theorem P_X12_theLand {G : Kg} {σ : Kmem} (p : tk2 σ) : Run G WM M_X12_theLand 6 0 0 [vA G 0] σ (fun x s => x = kb ((cLand σ).1) ∧ s = (cLand σ).2) := by
  obtain ⟨h1, hn, hc⟩ := p
  have t := tA_k1 (tok_x0 h1.1) h1.2
  unfold cLand
  refine S_X12_theLand ⟨tok_x0 h1.1, ⟨t, by decide, by decide, by decide⟩, fun n => ?_, fun e => ?_⟩
  · rw [cThen_f n]; exact ⟨kbF, rfl⟩
  rw [cThen_t e]
  have h2 := (cNum_G (to := 2056) (lo := 1) (hi := 9) t (by omega)).2.1 e
  refine ⟨⟨h2, by decide⟩, fun n => ?_, fun e2 => ?_⟩
  · rw [cThen_f n]; exact ⟨kbF, rfl⟩
  rw [cThen_t e2]
  have h3 := (cWord_G (k := 7) h2).2.1 e2
  exact ⟨⟨h3, by decide, by decide, by decide⟩, fun n => ⟨kbN n, rfl⟩, fun e3 => ⟨kbY e3, rfl⟩⟩
