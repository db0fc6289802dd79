/-! CountyReader: a part -/
theorem kup_self {τ : Kmem} {x j : Int} : kup τ x j (τ x j) = τ := by
  funext y i
  by_cases h : y = x ∧ i = j
  · obtain ⟨a, b⟩ := h; subst a; subst b; exact kup_at
  · exact if_neg h
noncomputable def cPa (τ : Kmem) : Prop × Kmem := kif (tWi τ < 0 ∨ 6 < tWi τ ∨ (tWi τ ≠ 0 ∧ τ 0 20 % 2 = 0)) (False, tF τ 2) (kif (τ 0 20 / 2 ^ (tWi τ).toNat % 2 = 1) (False, tF τ 5) (cBody (tWi τ) (kup τ 0 20 (kTo (τ 0 20) (tWi τ)))))
theorem cPart_pa {τ : Kmem} : cPart τ = cThen (cPa τ) (cSign 59) := by
  unfold cPart cPa
  by_cases a : tWi τ < 0 ∨ 6 < tWi τ ∨ (tWi τ ≠ 0 ∧ τ 0 20 % 2 = 0)
  · rw [kif_t a, kif_t a, cThen_f (fun z => z)]
  rw [kif_f a, kif_f a]
  by_cases b : τ 0 20 / 2 ^ (tWi τ).toNat % 2 = 1
  · rw [kif_t b, kif_t b, cThen_f (fun z => z)]
  rw [kif_f b, kif_f b]
theorem cPa_is {τ : Kmem} {k : Int} (h : tWi τ = k) (hk : 0 ≤ k ∧ k ≤ 6) (hT : k = 0 ∨ τ 0 20 % 2 ≠ 0) : (τ 0 20 / 2 ^ k.toNat % 2 = 1 → cPa τ = (False, tF τ 5)) ∧ (τ 0 20 / 2 ^ k.toNat % 2 ≠ 1 → cPa τ = cBody k (kup τ 0 20 (kTo (τ 0 20) k))) := by
  subst h
  have e : cPa τ = kif (tWi τ < 0 ∨ 6 < tWi τ ∨ (tWi τ ≠ 0 ∧ τ 0 20 % 2 = 0)) (False, tF τ 2) (kif (τ 0 20 / 2 ^ (tWi τ).toNat % 2 = 1) (False, tF τ 5) (cBody (tWi τ) (kup τ 0 20 (kTo (τ 0 20) (tWi τ))))) := rfl
  rw [kif_f (by omega)] at e
  exact ⟨fun q => by rw [e, kif_t q], fun q => by rw [e, kif_f q]⟩
theorem xOk_01 {r : Prop × Kmem} {σ s : Kmem} {y : Int} (h : xOk r σ y s) : (y = 0 ∨ y = 1) ∧ xOk r σ y s := ⟨by rw [h.1]; exact kb_01 _, h⟩
theorem P_X1_readPart {G : Kg} {σ τ : Kmem} (h : tRs σ τ) (hy : tY σ (vN τ) (τ 2) (τ 0 20)) (c : cI τ) (hT : τ 0 20 % 2 ≠ 0) (hT2 : τ 0 20 / 2 % 2 = 0) : Run G WX M_X1_readPart 8 0 0 [vA G 57] σ (fun y s => xOk (cPa τ) σ y s) := by
  have t2 := cI_k2 c
  have t := c.1
  have cz' := c.2.2.2
  have w := cz'.1
  have T0 := tRs_T0 h t.1
  have x : ∀ i : Nat, i < 28 ∧ i ≠ 15 → (xW σ (-((10 + i : Nat) : Int)) ↔ tWi τ = (wdK i : Int)) := fun i hi => xW_t h t.1 ⟨i, hi, rfl, rfl⟩
  have st : ∀ i : Nat, i < 29 → isStr (-((10 + i : Nat) : Int)) := fun i hi => ⟨i, hi, rfl⟩
  have bad : ∀ k, cPa τ = (False, tF τ k) → (rI (σ 3 2)) ∧ xOk (cPa τ) σ 0 (xF σ k) := fun k e => by
    rw [e]; exact ⟨tRs_r2 h t.1, (kb_0 (fun z => z)).symm, tRs_F h t, fun z => z.elim, fun y hy => xF_B.1 y (by omega)⟩
  refine S_X1_readPart ⟨⟨T0, st 8 (by omega)⟩, fun n1 => ⟨⟨T0, st 9 (by omega)⟩, fun n2 => ⟨⟨T0, st 10 (by omega)⟩, fun n3 => ⟨⟨T0, st 11 (by omega)⟩, fun n4 => ⟨⟨T0, st 12 (by omega)⟩, fun n5 => ⟨⟨T0, st 13 (by omega)⟩, fun n6 => ⟨⟨T0, st 14 (by omega)⟩, fun n0 => bad 2 ?_, fun y0 => bad 5 ?_⟩, fun y6 => ?_⟩, fun y5 => ?_⟩, fun y4 => ?_⟩, fun y3 => ?_⟩, fun y2 => ?_⟩, fun y1 => ?_⟩
  · have m1 : tWi τ ≠ 1 := fun e => n1 ((x 8 (by omega)).2 e)
    have m2 : tWi τ ≠ 2 := fun e => n2 ((x 9 (by omega)).2 e)
    have m3 : tWi τ ≠ 3 := fun e => n3 ((x 10 (by omega)).2 e)
    have m4 : tWi τ ≠ 4 := fun e => n4 ((x 11 (by omega)).2 e)
    have m5 : tWi τ ≠ 5 := fun e => n5 ((x 12 (by omega)).2 e)
    have m6 : tWi τ ≠ 6 := fun e => n6 ((x 13 (by omega)).2 e)
    have m0 : tWi τ ≠ 0 := fun e => n0 ((x 14 (by omega)).2 e)
    exact kif_t (by omega)
  · have e : tWi τ = 0 := (x 14 (by omega)).1 y0
    refine (cPa_is e (by omega) (Or.inl rfl)).1 ?_
    show τ 0 20 / 1 % 2 = 1
    omega
  · have e : tWi τ = 6 := (x 13 (by omega)).1 y6
    have q := (cPa_is e (by omega) (Or.inr hT)).2 (by show τ 0 20 / 64 % 2 ≠ 1; have := c.2.2.1; omega)
    rw [q, show kTo (τ 0 20) 6 = τ 0 20 from rfl, kup_self]
    exact Run.mono (P_X1_readTenant h hy t2 cz') (fun r s z => xOk_01 z)
  · have e : tWi τ = 5 := (x 12 (by omega)).1 y5
    have q := (cPa_is e (by omega) (Or.inr hT)).2 (by show τ 0 20 / 32 % 2 ≠ 1; have := c.2.2.1; omega)
    rw [q, show kTo (τ 0 20) 5 = τ 0 20 from rfl, kup_self]
    exact Run.mono (P_X1_readCrop h hy t2 cz') (fun r s z => xOk_01 z)
  · have e : tWi τ = 4 := (x 11 (by omega)).1 y4
    have q := (cPa_is e (by omega) (Or.inr hT)).2 (by show τ 0 20 / 16 % 2 ≠ 1; have := c.2.2.1; omega)
    rw [q, show kTo (τ 0 20) 4 = τ 0 20 from rfl, kup_self]
    exact Run.mono (P_X1_readKite h hy t2 cz') (fun r s z => xOk_01 z)
  · have e : tWi τ = 3 := (x 10 (by omega)).1 y3
    obtain ⟨q1, q2⟩ := cPa_is e (by omega) (Or.inr hT)
    refine Run.mono (P_X1_readLaw h hy t w c.2.2.1) (fun r s z => ?_)
    by_cases b : τ 0 20 / 8 % 2 = 1
    · rw [q1 b]; exact xOk_01 (z.1 b)
    · rw [q2 b]; exact xOk_01 (z.2 b)
  · have e : tWi τ = 2 := (x 9 (by omega)).1 y2
    obtain ⟨q1, q2⟩ := cPa_is e (by omega) (Or.inr hT)
    refine Run.mono (P_X1_readNoon h hy t w c.2.2.1) (fun r s z => ?_)
    by_cases b : τ 0 20 / 4 % 2 = 1
    · rw [q1 b]; exact xOk_01 (z.1 b)
    · rw [q2 b]; exact xOk_01 (z.2 b)
  · have e : tWi τ = 1 := (x 8 (by omega)).1 y1
    have q := (cPa_is e (by omega) (Or.inr hT)).2 (by show τ 0 20 / 2 % 2 ≠ 1; omega)
    rw [q, show kTo (τ 0 20) 1 = τ 0 20 from rfl, kup_self]
    exact Run.mono (P_X1_readWind h hy t w) (fun r s z => xOk_01 z)
