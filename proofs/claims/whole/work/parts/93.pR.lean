theorem P_X12_aWind {G : Kg} {σ : Kmem} (p : tk2 σ) : Run G WM M_X12_aWind 3 0 0 [vA G 0] σ (fun x s => x = kb ((cWind σ).1) ∧ s = (cWind σ).2) := by
  obtain ⟨h1, hn, hc⟩ := p
  have t := tA_k1 (tok_x0 h1.1) h1.2
  unfold cWind
  refine S_X12_aWind ⟨tok_x0 h1.1, ⟨t, by decide, by decide, by decide⟩, fun e => ?_, fun n => ?_⟩
  rotate_left
  · rw [cThen_f n]; exact ⟨kbF, rfl⟩
  rw [cThen_t e]
  have h2 := (cNum_G (to := 2566) (lo := 0) (hi := 11) t (by omega)).2.1 e
  obtain ⟨x, hx, -, v1, -⟩ := cNum_v e
  have e66 : (cNum 2566 0 11 (tA σ)).2 1 2566 = x := by rw [v1, ku_eq]
  refine ⟨⟨h2, by rw [e66]; omega, by decide, by decide⟩, fun n => ?_, fun e2 => ?_⟩
  · rw [cThen_f n]; exact ⟨kbF, rfl⟩
  rw [cThen_t e2]
  have h3 := (cNum_G (lo := 0) (hi := 7) h2 (show 2056 ≤ 2066 + 2 * (cNum 2566 0 11 (tA σ)).2 1 2566 ∧ 2066 + 2 * (cNum 2566 0 11 (tA σ)).2 1 2566 < 2570 by rw [e66]; omega)).2.1 e2
  exact ⟨⟨h3, by rw [e66]; omega, by decide, by decide⟩, fun n => ⟨kbN n, rfl⟩, fun e3 => ⟨kbY e3, rfl⟩⟩
theorem cIs_t {τ : Kmem} {k : Int} (h : (cIs k τ).1) : tWi τ = k ∧ (cIs k τ).2 = tA τ := by
  unfold cIs at *
  by_cases e : tWi τ = k
  · rw [kif_t e]; exact ⟨e, rfl⟩
  · rw [kif_f e] at h; exact h.elim
theorem cIs_f {τ : Kmem} {k : Int} (h : ¬ (cIs k τ).1) : tWi τ ≠ k ∧ (cIs k τ).2 = τ := by
  unfold cIs at *
  by_cases e : tWi τ = k
  · rw [kif_t e] at h; exact absurd trivial h
  · rw [kif_f e]; exact ⟨e, rfl⟩
/-- one trait, as the bytecode goes about it -/
theorem trait_step {σ : Kmem} {k to hi : Int} {R : Prop × Kmem → Prop} (h : R (cTrait k to hi σ)) : (¬ (cIs k σ).1 → R (True, (cIs k σ).2)) ∧ ((cIs k σ).1 → R (cNum to 0 hi (cIs k σ).2)) := by
  refine ⟨fun n => ?_, fun e => ?_⟩
  · have q := cIs_f n
    have : cTrait k to hi σ = (True, σ) := kif_f q.1
    rw [q.2]; rw [this] at h; exact h
  · have q := cIs_t e
    have : cTrait k to hi σ = cNum to 0 hi (tA σ) := kif_t q.1
    rw [q.2]; rw [this] at h; exact h
theorem kite_128 {G : Kg} {σ : Kmem} {b : Int} {Q : Int → Kmem → Prop} (h : tk1 σ) (hb : 2090 ≤ b ∧ b ≤ 2140) (hQ : Q (kb ((cThen (cTrait 12 (b + 7) 7 σ) (fun u4 => (True, kInc u4 2058))).1)) (cThen (cTrait 12 (b + 7) 7 σ) (fun u4 => (True, kInc u4 2058))).2) : E_X12_aKite_128 G b σ Q := by
  have tr := trait_step (R := fun r => Q (kb ((cThen r (fun u4 => (True, kInc u4 2058))).1)) (cThen r (fun u4 => (True, kInc u4 2058))).2) hQ
  refine S_X12_aKite_128 ⟨⟨h, by decide⟩, fun n m43 e43 => ?_, fun e => ?_⟩
  · have q := tr.1 n
    rw [cThen_t (r := (True, (cIs 12 σ).2)) trivial] at q
    have q' : Q (kb True) (kInc (cIs 12 σ).2 2058) := q
    rw [← kbT] at q'
    rw [e43]; exact q'
  · have q := tr.2 e
    have i := cIs_t e
    have t := tA_k1 (tok_x0 h.1) h.2
    refine ⟨⟨by rw [i.2]; exact t, by omega, by decide, by decide⟩, fun e2 m48 e48 => ?_, fun n2 => ?_⟩
    · rw [cThen_t e2] at q
      have q' : Q (kb True) (kInc (cNum (b + 7) 0 7 (cIs 12 σ).2).2 2058) := q
      rw [← kbT] at q'
      rw [e48]; exact q'
    · rw [cThen_f n2] at q
      have q' : Q (kb False) _ := q
      rw [← kbF] at q'
      exact q'
theorem kite_85 {G : Kg} {σ : Kmem} {b : Int} {Q : Int → Kmem → Prop} (h : tk1 σ) (hb : 2090 ≤ b ∧ b ≤ 2140) (f : Kmem → Prop × Kmem) (hf : f = fun u2 => cThen (cTrait 11 (b + 4) 3 u2) (fun u3 => cThen (cTrait 12 (b + 7) 7 u3) (fun u4 => (True, kInc u4 2058)))) (hQ : Q (kb ((cThen (cTrait 10 (b + 3) 9 σ) f).1)) (cThen (cTrait 10 (b + 3) 9 σ) f).2) : E_X12_aKite_85 G b σ Q := by
  have tr := trait_step (R := fun r => Q (kb ((cThen r f).1)) (cThen r f).2) hQ
  -- the third trait
  have third : ∀ s : Kmem, tk1 s → Q (kb ((f s).1)) (f s).2 → (tk1 s ∧ rI 11) ∧ (¬ (cIs 11 s).1 → E_X12_aKite_128 G b (cIs 11 s).2 Q) ∧ ((cIs 11 s).1 → (tk1 (cIs 11 s).2 ∧ ((0 : Int) ≤ b + 4 ∧ ((b + 4) : Int) < 3598) ∧ rI 0 ∧ rI 3) ∧ (¬ (cNum (b + 4) 0 3 (cIs 11 s).2).1 → Q 0 (cNum (b + 4) 0 3 (cIs 11 s).2).2) ∧ ((cNum (b + 4) 0 3 (cIs 11 s).2).1 → E_X12_aKite_128 G b (cNum (b + 4) 0 3 (cIs 11 s).2).2 Q)) := by
    intro s hs hq
    rw [hf] at hq
    have t3 := trait_step (R := fun r => Q (kb ((cThen r (fun u3 => cThen (cTrait 12 (b + 7) 7 u3) (fun u4 => (True, kInc u4 2058)))).1)) (cThen r (fun u3 => cThen (cTrait 12 (b + 7) 7 u3) (fun u4 => (True, kInc u4 2058)))).2) hq
    refine ⟨⟨hs, by decide⟩, fun n => ?_, fun e => ?_⟩
    · have q := t3.1 n
      rw [cThen_t (r := (True, (cIs 11 s).2)) trivial] at q
      exact kite_128 (by rw [(cIs_f n).2]; exact hs) hb q
    · have q := t3.2 e
      have i := cIs_t e
      have t : tk1 (cIs 11 s).2 := by rw [i.2]; exact tA_k1 (tok_x0 hs.1) hs.2
      refine ⟨⟨t, by omega, by decide, by decide⟩, fun n2 => ?_, fun e2 => ?_⟩
      · rw [cThen_f n2] at q
        have q' : Q (kb False) _ := q
        rw [← kbF] at q'
        exact q'
      · rw [cThen_t e2] at q
        exact kite_128 ((cNum_G t (by omega)).2.1 e2) hb q
  refine S_X12_aKite_85 ⟨⟨h, by decide⟩, fun n => ?_, fun e => ?_⟩
  · have q := tr.1 n
    rw [cThen_t (r := (True, (cIs 10 σ).2)) trivial] at q
    exact third (cIs 10 σ).2 (by rw [(cIs_f n).2]; exact h) q
  · have q := tr.2 e
    have i := cIs_t e
    have t : tk1 (cIs 10 σ).2 := by rw [i.2]; exact tA_k1 (tok_x0 h.1) h.2
    refine ⟨⟨t, by omega, by decide, by decide⟩, fun n2 => ?_, fun e2 => ?_⟩
    · rw [cThen_f n2] at q
      have q' : Q (kb False) _ := q
      rw [← kbF] at q'
      exact q'
    · rw [cThen_t e2] at q
      exact third _ ((cNum_G t (by omega)).2.1 e2) q
theorem P_X12_aKite {G : Kg} {σ : Kmem} (p : tk2 σ) : Run G WM M_X12_aKite 7 0 0 [vA G 0] σ (fun x s => x = kb ((cKite σ).1) ∧ s = (cKite σ).2) := by
  have p' := p
  obtain ⟨h1, hn, hc⟩ := p'
  have hk := hc.2.1
  have pn : pNew 2 6 0 := Or.inl ⟨rfl, rfl, rfl⟩
  unfold cKite
  refine S_X12_aKite ⟨⟨p, pn⟩, fun n => ?_, fun e => ?_⟩
  · rw [cThen_f n]; exact ⟨kbF, rfl⟩
  rw [cThen_t e]
  have g1 := cNew_G p pn
  have h2 := g1.2.1 e
  have ne : σ 1 2058 ≠ 6 := (cNew_v e).1.1
  have v1 := (cNew_1 e).1
  have c2 : cty (cNew 2 6 0 σ).2 := by unfold cty; rw [v1]; exact hc
  have n2 := g1.2.2.2 hn
  refine ⟨⟨⟨h2, n2, c2⟩, by omega, by omega⟩, fun e2 => ⟨by omega, fun m8 e8 => ⟨by omega, fun m11 e11 => ⟨by omega, fun m14 e14 => ?_⟩⟩⟩, fun n => ?_⟩
  rotate_left
  · rw [cThen_f n]; exact ⟨kbF, rfl⟩
  rw [cThen_t e2]
  have h3 := (cFld_G h2 (to := 2090 + 9 * σ 1 2058) (by omega)).2.1 e2
  have em : m14 = kKit (cFld (2090 + 9 * σ 1 2058) (cNew 2 6 0 σ).2).2 (2090 + 9 * σ 1 2058) := by rw [e14, e11, e8]; rfl
  have k3 := (kKit_k h3 (b := 2090 + 9 * σ 1 2058) (by omega)).1
  rw [← em] at k3 ⊢
  generalize hb : 2090 + 9 * σ 1 2058 = b at *
  have tr := trait_step (σ := m14) (k := 9) (to := b + 2) (hi := 2) (R := fun r => (fun (x : Int) (s : Kmem) => x = kb ((cKit2 b m14).1) ∧ s = (cKit2 b m14).2) (kb ((cThen r (fun u1 => cThen (cTrait 10 (b + 3) 9 u1) (fun u2 => cThen (cTrait 11 (b + 4) 3 u2) (fun u3 => cThen (cTrait 12 (b + 7) 7 u3) (fun u4 => (True, kInc u4 2058)))))).1)) (cThen r (fun u1 => cThen (cTrait 10 (b + 3) 9 u1) (fun u2 => cThen (cTrait 11 (b + 4) 3 u2) (fun u3 => cThen (cTrait 12 (b + 7) 7 u3) (fun u4 => (True, kInc u4 2058)))))).2) ⟨rfl, rfl⟩
  refine ⟨⟨k3, by decide⟩, fun n => ?_, fun e3 => ?_⟩
  · have q := tr.1 n
    rw [cThen_t (r := (True, (cIs 9 m14).2)) trivial] at q
    exact kite_85 (by rw [(cIs_f n).2]; exact k3) (by omega) _ rfl q
  · have q := tr.2 e3
    have i := cIs_t e3
    have t : tk1 (cIs 9 m14).2 := by rw [i.2]; exact tA_k1 (tok_x0 k3.1) k3.2
    refine ⟨⟨t, by omega, by decide, by decide⟩, fun n2 => ?_, fun e4 => ?_⟩
    · rw [cThen_f n2] at q
      have q' : kb False = _ ∧ _ := q
      rw [← kbF] at q'
      exact q'
    · rw [cThen_t e4] at q
      exact kite_85 ((cNum_G t (by omega)).2.1 e4) (by omega) _ rfl q
theorem P_X12_aCrop {G : Kg} {σ : Kmem} (p : tk2 σ) : Run G WM M_X12_aCrop 7 0 0 [vA G 0] σ (fun x s => x = kb ((cCrop σ).1) ∧ s = (cCrop σ).2) := by
  have p' := p
  obtain ⟨h1, hn, hc⟩ := p'
  have hk := hc.2.2.1
  have pn : pNew 3 8 6 := Or.inr (Or.inl ⟨rfl, rfl, rfl⟩)
  unfold cCrop
  refine S_X12_aCrop ⟨⟨p, pn⟩, fun n => ?_, fun e => ?_⟩
  · rw [cThen_f n]; exact ⟨kbF, rfl⟩
  rw [cThen_t e]
  have g1 := cNew_G p pn
  have h2 := g1.2.1 e
  have v1 := (cNew_1 e).1
  have c2 : cty (cNew 3 8 6 σ).2 := by unfold cty; rw [v1]; exact hc
  refine ⟨⟨⟨h2, g1.2.2.2 hn, c2⟩, by omega, by omega⟩, fun n => ?_, fun e2 => ?_⟩
  · rw [cThen_f n]; exact ⟨kbF, rfl⟩
  rw [cThen_t e2]
  have h3 := (cFld_G h2 (to := 2144 + 4 * σ 1 2059) (by omega)).2.1 e2
  refine ⟨⟨h3, by decide⟩, fun n => ?_, fun e3 => ?_⟩
  · rw [cThen_f n]; exact ⟨kbF, rfl⟩
  rw [cThen_t e3]
  have h4 := (cWord_G (k := 13) h3).2.1 e3
  refine ⟨⟨h4, by omega, by decide, by decide⟩, fun e4 m13 e13 => ?_, fun n => ?_⟩
  · rw [cThen_t e4, e13]; exact ⟨kbT, rfl⟩
  · rw [cThen_f n]; exact ⟨kbF, rfl⟩
theorem P_X12_aTenant {G : Kg} {σ : Kmem} (p : tk2 σ) : Run G WM M_X12_aTenant 7 0 0 [vA G 0] σ (fun x s => x = kb ((cTen σ).1) ∧ s = (cTen σ).2) := by
  have p' := p
  obtain ⟨h1, hn, hc⟩ := p'
  have hk := hc.2.1
  have hk2 := hc.2.2.2
  have pn : pNew 4 6 14 := Or.inr (Or.inr ⟨rfl, rfl, rfl⟩)
  unfold cTen
  refine S_X12_aTenant ⟨⟨p, pn⟩, fun n => ?_, fun e => ?_⟩
  · rw [cThen_f n]; exact ⟨kbF, rfl⟩
  rw [cThen_t e]
  have g1 := cNew_G p pn
  have h2 := g1.2.1 e
  have v1 := (cNew_1 e).1
  have c2 : cty (cNew 4 6 14 σ).2 := by unfold cty; rw [v1]; exact hc
  refine ⟨⟨⟨h2, g1.2.2.2 hn, c2⟩, by omega, by omega⟩, fun n => ?_, fun e2 => ?_⟩
  · rw [cThen_f n]; exact ⟨kbF, rfl⟩
  rw [cThen_t e2]
  have g2 := cFld_G h2 (to := 2176 + 5 * σ 1 2060) (by omega)
  have h3 := g2.2.1 e2
  obtain ⟨x, y, hxy, f1, f2⟩ := cFld_v (by omega) e2
  refine ⟨⟨h3, by decide⟩, fun n => ?_, fun e3 => ?_⟩
  · rw [cThen_f n]; exact ⟨kbF, rfl⟩
  rw [cThen_t e3]
  have g3 := cWord_G (k := 14) h3
  have h4 := g3.2.1 e3
  have e58 : (cWord 14 (cFld (2176 + 5 * σ 1 2060) (cNew 4 6 14 σ).2).2).2 1 2058 = σ 1 2058 := by
    rw [(cWord_v e3).2, tA_fr.1 1 (by omega), f1, ku_ne (by omega), ku_ne (by omega), v1]
  refine ⟨⟨⟨h4, g3.2.2.2 (g2.2.2.2 (g1.2.2.2 hn))⟩, by rw [e58]; exact ⟨by omega, by omega⟩⟩, fun e4 m13 e13 => ?_, fun n => ?_⟩
  · rw [cThen_t e4, e13]; exact ⟨kbT, rfl⟩
  · rw [cThen_f n]; exact ⟨kbF, rfl⟩
