/-! KiteLandModel.county(I)I, as the text has it -/
theorem tA_tk1 {σ : Kmem} {n : Int} (h : tpR σ) (hn : 0 ≤ n ∧ n ≤ 900) : tk1 (tA (tB0 σ n)) := by
  have v := tB0_v (σ := σ) (n := n)
  exact tA_k1 (tB0_x h hn) v.1.2.2.1
theorem tAB_2 {σ : Kmem} {n : Int} : (tA (tB0 σ n)) 2 = σ 2 := by rw [tA_fr.1 2 (by omega), (tB0_v (σ := σ) (n := n)).2.2.1 2 (by omega) (by omega)]
theorem P_X12_county {G : Kg} {σ : Kmem} {n : Int} (p : tpR σ ∧ nmR σ ∧ rI n) : Run G WM M_X12_county 9 0 0 [vA G 0, vI n] σ (fun x s => (¬ (0 ≤ n ∧ n ≤ σ 0 10 ∧ n ≤ 900) → x = -1 ∧ s = kup σ 0 2 1) ∧ ((0 ≤ n ∧ n ≤ σ 0 10 ∧ n ≤ 900) → (tCo σ n 0 18 ≠ 0 → x = -1 ∧ s = tTk (tCo σ n)) ∧ (tCo σ n 0 18 = 0 → x = tCo σ n 1 2058 ∧ s = tTk (tCq (tCo σ n))))) := by
  obtain ⟨ht, hn, hi⟩ := p
  refine S_X12_county (Run.mono (P_X12_begins ⟨ht, hi, by decide⟩) (fun r s e => ?_))
  obtain ⟨e1, e2⟩ := e
  by_cases ok : 0 ≤ n ∧ n ≤ σ 0 10 ∧ n ≤ 900
  rotate_left
  · rw [kb_0 ok] at e1
    rw [kif_f ok] at e2
    subst e1; subst e2
    exact ⟨by decide, fun q => absurd rfl q, fun _ => ⟨fun _ => ⟨rfl, rfl⟩, fun q => absurd q ok⟩⟩
  rw [kb_1 ok] at e1
  rw [kif_t ok] at e2
  subst e1; subst e2
  refine ⟨by decide, fun _ => Run.mono (P_X12_plain (by omega)) (fun r s e m6 e6 => ?_), fun q => absurd q (by decide)⟩
  obtain ⟨-, e⟩ := e
  have E : m6 = tC0 (tA (tB0 σ n)) := by rw [e6, e]; rfl
  have c : cI (tC0 (tA (tB0 σ n))) := tC0_I (tA_tk1 ht (by omega)) (nm_same tAB_2 hn)
  have c13 := c.1.1.2.1
  rw [E]
  have ok2 := cCty_ok 902 _ c (by omega)
  have hC : cCty 902 (tC0 (tA (tB0 σ n))) = tCo σ n := rfl
  rw [hC] at ok2
  refine cty_31 902 _ c (by omega) (fun q => ?_) (fun q => ?_)
  · rw [hC] at q ⊢
    have := ok2.1.2 q
    refine Run.mono (P_X12_taken (by omega)) (fun r s e => ⟨fun z => absurd ok z, fun _ => ⟨fun _ => ⟨e.2.1 q, e.2.2⟩, fun z => absurd z q⟩⟩)
  · rw [hC] at q ⊢
    generalize tCo σ n = u at *
    refine kloopP (E := fun i τ => E_X12_county_59 G i τ _) (fun i τ => τ = kst u 1 (cpA (u 1) 0 2056 i)) 514 (fun i τ hi hI ih => S_X12_county_59 (l1 := 0) ⟨by constructor <;> omega, fun z => ?_, fun z => ⟨by omega, by omega, fun m24 e24 => ih (by omega) _ ?_⟩⟩) ?_
    · refine kloopP (E := fun i τ => E_X12_county_90 G i τ _) (fun i τ => τ = kst (kst u 1 (cpA (u 1) 0 2056 514)) 2 (cpA (u 2) 0 80 i)) 20 (fun i τ hi hI ih => S_X12_county_90 (l1 := 0) ⟨by constructor <;> omega, fun z => ?_, fun z => ⟨by omega, by omega, fun m24 e24 => ih (by omega) _ ?_⟩⟩) ?_
      · have E2 : τ = tCq u := by rw [hI, show ((i : Nat) : Int) = 20 by omega]; rfl
        have t18 : τ 0 18 = 0 := by rw [hI, kst_ne (by omega), kst_ne (by omega)]; exact q
        have t2 : τ 1 2 = u 1 2058 := by rw [hI, kst_ne (by omega), kst_eq]; unfold cpA; rw [if_pos (by omega)]; rfl
        refine Run.mono (P_X12_taken (by omega)) (fun r s e => ⟨fun z => absurd ok z, fun _ => ⟨fun z => absurd q z, fun _ => ⟨(e.1 t18).trans t2, by rw [e.2.2, E2]⟩⟩⟩)
      · have := cpA_s (f := u 2) (a := 0) (b := 80) (i := i) (N := 20) (by omega) (by omega)
        rw [Int.zero_add] at this
        rw [e24, hI, kup_st, kst_eq, this]
      · rw [cpA_0, hI, show ((i : Nat) : Int) = 514 by omega]
        have : (kst u 1 (cpA (u 1) 0 2056 514)) 2 = u 2 := kst_ne (by omega)
        rw [← this, kst_id]
    · have := cpA_s (f := u 1) (a := 0) (b := 2056) (i := i) (N := 514) (by omega) (by omega)
      rw [Int.zero_add] at this
      rw [e24, hI, kup_st, kst_eq, this]
    · rw [cpA_0, kst_id]
