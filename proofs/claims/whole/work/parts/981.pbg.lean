/-! CountyReader: names, fields, traits -/
theorem cNum_at {τ : Kmem} {to lo hi : Int} (h : (cNum to lo hi τ).1) : (cNum to lo hi τ).2 1 to = τ 0 15 := by
  rw [(cNum_t h).2, tA_fr.1 1 (by omega), kup_at]
theorem r01 {x : Prop} {y : Int} (e : y = kb x) : rI y := by
  by_cases h : x
  · rw [e, kb_1 h]; decide
  · rw [e, kb_0 h]; decide
theorem yes {x : Prop} {y : Int} (e : y = kb x) (h : y ≠ 0) : x := Classical.byContradiction (fun n => h (by rw [e, kb_0 n]))
theorem no {x : Prop} {y : Int} (e : y = kb x) (h : y = 0) : ¬ x := fun n => by rw [e, kb_1 n] at h; exact absurd h (by decide)
abbrev j57 (x : Int) : Prop := x = 3 ∨ x = 57
theorem kS_57 {J : Int → Prop} {s σ : Kmem} (h : kS J s σ) : kfm j57 s σ := fun x hx => h.1 x (fun e => hx (Or.inl e))
theorem tRs_57 {σ τ : Kmem} {x j y : Int} (h : tRs σ τ) (hx : x ≠ 3 ∧ x ≠ 4) : tRs (kup σ x j y) τ := by
  have c3 : (kup σ x j y) 3 = σ 3 := kup_o (by omega)
  have c4 : (kup σ x j y) 4 = σ 4 := kup_o (by omega)
  unfold tRs tRt at *
  rw [c3, c4]; exact h
/-- a name, where none may be told twice -/
noncomputable def cNm (j : Int) (u : Kmem) : Prop × Kmem := kif (tNk u) (kif (tFd u) (False, tF u 3) (True, tA (kup u 2 j (tNm u)))) (False, tF u 2)
theorem cNew_nm {τ : Kmem} {a b c : Int} (h : τ 1 (2056 + a) ≠ b) : cNew a b c τ = cNm (80 + c + tA τ 1 (2056 + a)) (tA τ) := kif_f h
/-- the names of the county that is read -/
def nmY (σ : Kmem) (v g : Int → Int) : Prop := nmB σ 37 (v 2) g 80 ∧ nmB σ 43 (v 3) g 86 ∧ nmB σ 51 (v 4) g 94
theorem P_X1_readNewName {G : Kg} {σ u : Kmem} (j : Int) (h : tRs σ u) (t : tk1 u) (w : wf (vN u)) (k : kco σ 31 (vN u)) (n : nmY σ (vN u) (u 2)) : Run G WX M_X1_readNewName 6 0 0 [vA G 57] σ (fun y s => y = kb ((cNm j u).1) ∧ tRs s (cNm j u).2 ∧ kfm j57 s σ ∧ (∀ i, i ≠ 4 → s 57 i = σ 57 i) ∧ ((cNm j u).1 → nmE (s 57 4) (tNm u))) := by
  have wh := w.1
  have w2 := wh.2.1
  have w3 := wh.2.2.1
  have w4 := wh.2.2.2.1
  refine S_X1_readNewName (Run.mono (P_X6_isNameHere h t) (fun r1 s2 e => ?_))
  obtain ⟨e1, e2, e3⟩ := e
  unfold cNm
  by_cases c : tNk u
  rotate_left
  · rw [kif_f c]
    rw [kb_0 c] at e1
    obtain ⟨x1, x2⟩ := e3 c
    exact ⟨by rw [e1]; decide, fun z => absurd e1 z, fun _ => ⟨(kb_0 (fun z => z)).symm, x1, kS_57 x2, fun i _ => by rw [x2.1 57 (by omega)], fun z => z.elim⟩⟩
  rw [kif_t c]
  have es := e2 c
  subst es
  rw [kb_1 c] at e1
  have nt := nmE_tok h t.1 c.1 c.2.1
  have kh := kco_h k
  refine ⟨by rw [e1]; decide, fun _ => Run.mono (P_X0_hasName (c := 31) (Or.inr (Or.inl rfl)) ⟨kh.2.2.1, w2, n.1⟩ ⟨kh.2.2.2.1, w3, n.2.1⟩ ⟨kh.2.2.2.2, w4, n.2.2⟩ nt) (fun r4 s5 e => ?_), fun z => by omega⟩
  obtain ⟨e4, e5⟩ := e
  subst e5
  have fd : (fst (fun k => u 2 (80 + k) = tNm u) (vN u 2).toNat 0 ≠ -1 ∨ fst (fun k => u 2 (86 + k) = tNm u) (vN u 3).toNat 0 ≠ -1 ∨ fst (fun k => u 2 (94 + k) = tNm u) (vN u 4).toNat 0 ≠ -1) ↔ tFd u := Iff.rfl
  refine ⟨r01 e4, fun z => ?_, fun z => ?_⟩
  · have nf : ¬ tFd u := fun q => no e4 z (fd.2 q)
    rw [kif_f nf]
    refine Run.mono (P_X6_next' (τ := kup u 2 j (tNm u)) (tRs_57 (tRs_1 h (by omega)) (by omega)) (tok_2 t.1)) (fun r s e => ?_)
    refine ⟨(kb_1 trivial).symm, e.2.1, fun x hx => ?_, fun i hi => ?_, fun _ => ?_⟩
    · rw [e.2.2.1 x (by omega), kup_o (by omega)]
    · rw [e.2.2.1 57 (by omega), kup_j hi]
    · rw [e.2.2.1 57 (by omega), kup_at]; exact nt
  · have f : tFd u := fd.1 (yes e4 z)
    rw [kif_t f]
    exact ⟨tRs_r2 h t.1, (kb_0 (fun z => z)).symm, tRs_F h t, kS_57 xF_B, fun i _ => by rw [xF_B.1 57 (by omega)], fun z => z.elim⟩
theorem P_X1_readField {G : Kg} {σ τ : Kmem} (to : Int) (h : tRs σ τ) (t : tk1 τ) (ht : 2090 ≤ to ∧ to < 2500) (h0 : σ 31 0 = τ 1 2056 ∧ (0 ≤ τ 1 2056 ∧ τ 1 2056 ≤ 9)) (h1 : σ 31 1 = τ 1 2057 ∧ (0 ≤ τ 1 2057 ∧ τ 1 2057 ≤ 7)) : Run G WX M_X1_readField 6 0 0 [vA G 57] σ (fun y s => y = kb ((cFld to τ).1) ∧ tRs s (cFld to τ).2 ∧ kfm j57 s σ ∧ (∀ i, i ≠ 5 → i ≠ 6 → s 57 i = σ 57 i) ∧ ((cFld to τ).1 → s 57 5 = (cFld to τ).2 1 to ∧ s 57 6 = (cFld to τ).2 1 (to + 1))) := by
  refine S_X1_readField (Run.mono (P_X6_takeWord h t (a := -17) (k := 8) ⟨7, by decide, rfl, rfl⟩) (fun r1 s2 e => ?_))
  obtain ⟨e1, e2, e3⟩ := e
  have g1 := cWord_G (k := 8) t
  unfold cFld
  refine ⟨r01 e1, fun z => ?_, fun z => ?_⟩
  · rw [cThen_f (no e1 z)]
    exact ⟨(kb_0 (fun z => z)).symm, e2, kS_57 e3, fun i _ _ => by rw [e3.1 57 (by omega)], fun z => z.elim⟩
  have y1 := yes e1 z
  rw [cThen_t y1]
  have t2 := g1.2.1 y1
  have q0 : (cWord 8 τ).2 1 2056 = τ 1 2056 := by rw [(cWord_v y1).2, tA_fr.1 1 (by omega)]
  have q1 : (cWord 8 τ).2 1 2057 = τ 1 2057 := by rw [(cWord_v y1).2, tA_fr.1 1 (by omega)]
  have s0 : s2 31 0 = (cWord 8 τ).2 1 2056 := by rw [e3.1 31 (by omega), q0]; exact h0.1
  rw [s0]
  refine Run.mono (P_X6_takeNumber to e2 t2 ⟨by decide, by rw [q0]; constructor <;> omega⟩) (fun r4 s5 e => ?_)
  obtain ⟨e4, e5, e6, e7⟩ := e
  have g2 := cNum_G (lo := 0) (hi := (cWord 8 τ).2 1 2056 - 1) t2 (show 2056 ≤ to ∧ to < 2570 by omega)
  refine ⟨r01 e4, fun z => ?_, fun z => ?_⟩
  rotate_left
  · rw [cThen_f (no e4 z)]
    exact ⟨(kb_0 (fun z => z)).symm, e5, (kS_57 e6).trans (kS_57 e3), fun i _ _ => by rw [e6.1 57 (by omega), e3.1 57 (by omega)], fun z => z.elim⟩
  have y2 := yes e4 z
  have e7 := e7 y2
  rw [cThen_t y2]
  have t3 := g2.2.1 y2
  have a15 := cNum_at y2
  have q2 : (cNum to 0 ((cWord 8 τ).2 1 2056 - 1) (cWord 8 τ).2).2 1 2057 = τ 1 2057 := by
    rw [(cNum_t y2).2, tA_fr.1 1 (by omega), kup_j (by omega)]; exact q1
  have s1 : (kup s5 57 5 (s5 3 7)) 31 1 = (cNum to 0 ((cWord 8 τ).2 1 2056 - 1) (cWord 8 τ).2).2 1 2057 := by rw [kup_o (by omega), e6.1 31 (by omega), e3.1 31 (by omega), q2]; exact h1.1
  rw [s1]
  generalize (cNum to 0 ((cWord 8 τ).2 1 2056 - 1) (cWord 8 τ).2).2 = u at *
  refine Run.mono (P_X6_takeNumber (to + 1) (tRs_57 e5 (by omega)) t3 ⟨by decide, by rw [q2]; constructor <;> omega⟩) (fun r7 s8 e => ?_)
  obtain ⟨e8, e9, e10, e11⟩ := e
  refine ⟨r01 e8, fun z => ?_, fun z => ?_⟩
  · have y3 := yes e8 z
    refine ⟨(kb_1 y3).symm, tRs_57 e9 (by omega), fun x hx => ?_, fun i i5 i6 => ?_, fun _ => ⟨?_, ?_⟩⟩
    · rw [kup_o (by omega), e10.1 x (by omega), kup_o (by omega), e6.1 x (by omega), e3.1 x (by omega)]
    · rw [kup_j i6, e10.1 57 (by omega), kup_j i5, e6.1 57 (by omega), e3.1 57 (by omega)]
    · rw [kup_j (by omega), e10.1 57 (by omega), kup_at, e7, (cNum_t y3).2, tA_fr.1 1 (by omega), kup_j (by omega), a15]
    · rw [kup_at, e11 y3, cNum_at y3]
  · have y3 := no e8 z
    refine ⟨(kb_0 y3).symm, e9, fun x hx => ?_, fun i i5 i6 => ?_, fun z => absurd z y3⟩
    · rw [e10.1 x (by omega), kup_o (by omega), e6.1 x (by omega), e3.1 x (by omega)]
    · rw [e10.1 57 (by omega), kup_j i5, e6.1 57 (by omega), e3.1 57 (by omega)]
theorem P_X1_readTrait {G : Kg} {σ τ : Kmem} {a k hi : Int} (to : Int) (h : tRs σ τ) (t : tok τ) (w : isWd a k) (r18 : rI (τ 0 18)) (rh : rI hi) : Run G WX M_X1_readTrait 5 0 0 [vA G 57, vA G a, vI hi] σ (fun y s => (τ 0 18 ≠ 0 → y = 0 ∧ s = σ) ∧ (τ 0 18 = 0 → (tWi τ ≠ k → y = 0 ∧ s = σ) ∧ (tWi τ = k → y = kb ((cNum to 0 hi (tA τ)).1) ∧ tRs s (cNum to 0 hi (tA τ)).2 ∧ kS jA s σ ∧ ((cNum to 0 hi (tA τ)).1 → s 3 7 = (cNum to 0 hi (tA τ)).2 1 to)))) := by
  have x := xW_t h t w
  obtain ⟨i, hi', ea, ek⟩ := id w
  have S := isWd_s w
  rw [ea] at x S ⊢
  have e8 := h.2.2.1.1
  refine S_X1_readTrait (strs29 i (by omega)) ⟨by rw [e8]; exact r18, fun q => ⟨fun _ => ⟨rfl, rfl⟩, fun z => by omega⟩, fun q => ⟨⟨tRs_T0 h t, S⟩, fun y => ?_, fun n => ⟨fun z => by omega, fun _ => ⟨fun _ => ⟨rfl, rfl⟩, fun z => absurd (x.2 z) n⟩⟩⟩⟩
  have q' : τ 0 18 = 0 := by omega
  refine Run.mono (P_X6_next' h t) (fun r s e => ?_)
  have t2 : tk1 (tA τ) := tA_k1 (tok_x0 t) q'
  refine Run.mono (P_X6_takeNumber to e.2.1 t2 ⟨by decide, rh⟩) (fun r7 s8 f => ?_)
  obtain ⟨f1, f2, f3, f4⟩ := f
  refine ⟨by by_cases z : (cNum to 0 hi (tA τ)).1; · rw [f1, kb_1 z]; exact Or.inr rfl
             · rw [f1, kb_0 z]; exact Or.inl rfl, fun z => absurd q' z, fun _ => ⟨fun z => absurd (x.1 y) z, fun _ => ⟨f1, f2, f3.trans (e.2.2.wide (fun j hj => by constructor <;> omega)), fun z => ?_⟩⟩⟩
  rw [f4 z, cNum_at z]
