/-! KiteLandModel.seasonStep()Z, as the text has it -/
theorem cStep_no {τ : Kmem} (c : snI τ) (h : ¬ (cStep τ).1) : ((1 ≤ (cStep τ).2 0 18 ∧ (cStep τ).2 0 18 ≤ 9) ∧ tok (cStep τ).2) ∧ nmR (cStep τ).2 ∧ fS (cStep τ).2 τ := by
  obtain ⟨s, ⟨⟨n0, cn⟩, cd, cc⟩, pi⟩ := c
  have e : cStep τ = kif (tWi τ < 15 ∨ 23 < tWi τ ∨ (tWi τ = 22 ∧ τ 0 22 = 0)) (False, tF τ 2) (kif (tWi τ ≠ 22 ∧ τ 0 23 = 30) (False, tF τ 6) (kif ((tWi τ = 20 ∨ tWi τ = 21) ∧ τ 0 22 = 3) (False, tF τ 7) (cThen (cOrd (tWi τ) (2206 + 6 * τ 1 2064) (tA (snL (tWi τ) τ))) (fun u => cSign 59 (sOpn (tWi τ) (τ 1 2064) u))))) := rfl
  have fl : ∀ k, 1 ≤ k ∧ k ≤ 9 → cStep τ = (False, tF τ k) → ((1 ≤ (cStep τ).2 0 18 ∧ (cStep τ).2 0 18 ≤ 9) ∧ tok (cStep τ).2) ∧ nmR (cStep τ).2 ∧ fS (cStep τ).2 τ := by
    intro k hk q
    have g := cG_fail s.1.1 hk
    rw [q]
    exact ⟨g.2.2.1 (fun z => z), g.2.2.2 s.1.2, fS_0 g.1⟩
  by_cases c1 : tWi τ < 15 ∨ 23 < tWi τ ∨ (tWi τ = 22 ∧ τ 0 22 = 0)
  · rw [kif_t c1] at e; exact fl 2 (by omega) e
  rw [kif_f c1] at e
  by_cases c2 : tWi τ ≠ 22 ∧ τ 0 23 = 30
  · rw [kif_t c2] at e; exact fl 6 (by omega) e
  rw [kif_f c2] at e
  by_cases c3 : (tWi τ = 20 ∨ tWi τ = 21) ∧ τ 0 22 = 3
  · rw [kif_t c3] at e; exact fl 7 (by omega) e
  rw [kif_f c3] at e
  have n59 : τ 1 2064 ≤ 59 := by omega
  have L := snL_v (k := tWi τ) (τ := τ) ⟨n0, n59⟩
  have Lk := snL_k (k := tWi τ) s ⟨n0, n59⟩
  have fL : fS (tA (snL (tWi τ) τ)) τ := (fS_0 fT0_tA).trans L.2.2.2
  have O := cOrd_G (k := tWi τ) (r := 2206 + 6 * τ 1 2064) Lk (by omega)
  have fu := (fS_0 O.1).trans fL
  by_cases y : (cOrd (tWi τ) (2206 + 6 * τ 1 2064) (tA (snL (tWi τ) τ))).1
  · rw [cThen_t y] at e
    have t1 := O.2.1 y
    have u22 : (cOrd (tWi τ) (2206 + 6 * τ 1 2064) (tA (snL (tWi τ) τ))).2 0 22 = τ 0 22 := by rw [O.1.2.1 22 (by omega), tA_fr.2 22 (by omega)]; exact L.1.2.2.1
    have u8 : (cOrd (tWi τ) (2206 + 6 * τ 1 2064) (tA (snL (tWi τ) τ))).2 8 = τ 8 := by rw [O.1.1 8 (by omega) (by omega) (by omega), tA_fr.1 8 (by omega)]; exact L.1.2.2.2
    have nmu := O.2.2.2 Lk.1.2
    rw [e] at h ⊢
    generalize (cOrd (tWi τ) (2206 + 6 * τ 1 2064) (tA (snL (tWi τ) τ))).2 = u at *
    have sg := cSign_G (k := 59) (sOpn_tk (k := tWi τ) (n := τ 1 2064) t1)
    have fO : fS (sOpn (tWi τ) (τ 1 2064) u) u := sOpn_f ⟨n0, n59⟩ (fun q => by
      have := (pi.2.1 (τ 0 22 - 1) (by omega) (by omega)).1
      rw [u8, u22]; omega)
    exact ⟨sg.2.2.1 h, sg.2.2.2 (nm_same sOpn_2 nmu), (fS_0 sg.1).trans (fO.trans fu)⟩
  · rw [cThen_f y] at e
    rw [e]
    exact ⟨O.2.2.1 y, O.2.2.2 Lk.1.2, fu⟩
theorem step_222 {G : Kg} {Q : Int → Kmem → Prop} {k n r : Int} {u : Kmem} (h : tk1 u) (hk : 15 ≤ k ∧ k ≤ 23) (hr : r = 2206 + 6 * n) (hn : 0 ≤ n ∧ n ≤ 59) (ho : k = 22 → (1 ≤ u 0 22 ∧ u 0 22 ≤ 3) ∧ 0 ≤ u 8 (u 0 22 - 1) ∧ u 8 (u 0 22 - 1) ≤ 59) (ne : k ≠ 20 ∧ k ≠ 21) (hQ : Q (kb ((cSign 59 (sOpn k n u)).1)) (cSign 59 (sOpn k n u)).2) : E_X12_seasonStep_222 G k n r u Q := by
  refine S_X12_seasonStep_222 ⟨by constructor <;> omega, fun q => ?_, fun q m73 e73 => ?_⟩
  · rw [sOpn_own (by omega)] at hQ; exact ⟨⟨h, by decide⟩, hQ⟩
  obtain ⟨d1, d2⟩ := ho q
  have v22 : m73 0 22 = u 0 22 - 1 := by rw [e73, kup_at]
  have v8 : m73 8 = u 8 := by rw [e73, kup_o (by omega)]
  rw [v22]
  refine ⟨by omega, by omega, fun m77 e77 => ?_⟩
  have w22 : m77 0 22 = u 0 22 - 1 := by rw [e77, kup_x (by omega)]; exact v22
  have w8 : m77 8 = u 8 := by rw [e77, kup_o (by omega)]; exact v8
  rw [w22, w8]
  refine ⟨by omega, by omega, fun m81 e81 => ?_⟩
  have E : m81 = sOpn k n u := by
    unfold sOpn
    rw [if_neg (by omega), if_pos q, e81, e77, v8, e73, hr]
  rw [E]
  exact ⟨⟨sOpn_tk h, by decide⟩, hQ⟩
theorem step_222o {G : Kg} {Q : Int → Kmem → Prop} {k n r : Int} {u m : Kmem} (h : tk1 u) (hk : k = 20 ∨ k = 21) (hm : m = kup (kup u 8 (u 0 22) n) 0 22 (u 0 22 + 1)) (hQ : Q (kb ((cSign 59 (sOpn k n u)).1)) (cSign 59 (sOpn k n u)).2) : E_X12_seasonStep_222 G k n r m Q := by
  have E : m = sOpn k n u := by unfold sOpn; rw [if_pos hk]; exact hm
  refine S_X12_seasonStep_222 ⟨by constructor <;> omega, fun q => ?_, fun q => by omega⟩
  rw [E]
  exact ⟨⟨sOpn_tk h, by decide⟩, hQ⟩
theorem P_X12_seasonStep {G : Kg} {σ : Kmem} (c : snI σ) : Run G WM M_X12_seasonStep 10 0 0 [vA G 0] σ (fun x s => x = kb ((cStep σ).1) ∧ s = (cStep σ).2) := by
  obtain ⟨s, ⟨⟨n0, cn⟩, cd, cc⟩, pi⟩ := c
  have e : cStep σ = kif (tWi σ < 15 ∨ 23 < tWi σ ∨ (tWi σ = 22 ∧ σ 0 22 = 0)) (False, tF σ 2) (kif (tWi σ ≠ 22 ∧ σ 0 23 = 30) (False, tF σ 6) (kif ((tWi σ = 20 ∨ tWi σ = 21) ∧ σ 0 22 = 3) (False, tF σ 7) (cThen (cOrd (tWi σ) (2206 + 6 * σ 1 2064) (tA (snL (tWi σ) σ))) (fun u => cSign 59 (sOpn (tWi σ) (σ 1 2064) u))))) := rfl
  have w26 := (tWi_ok (τ := σ)).1
  have h18 := s.1.1.2
  have tkk := s.1.1.1
  -- the four ways it may fail at once
  have bad : ∀ k : Int, cStep σ = (False, tF σ k) → (tok σ ∧ (0 : Int) ≤ σ 0 18 ∧ (σ 0 18 : Int) ≤ 9) ∧ ((0 : Int) = kb ((cStep σ).1) ∧ tF σ k = (cStep σ).2) := fun k q => by
    rw [q]; exact ⟨⟨tkk, by omega, by omega⟩, kbF, rfl⟩
  have s97 : 15 ≤ tWi σ ∧ tWi σ ≤ 23 → (tWi σ = 22 → σ 0 22 ≠ 0) → (tWi σ ≠ 22 → σ 0 23 ≠ 30) → ∀ b : Int, (b = 0 ∨ b = 1) → (b = 1 ↔ (tWi σ = 20 ∨ tWi σ = 21)) → E_X12_seasonStep_97 G (tWi σ) (σ 1 2064) (2206 + (6 * (σ 1 2064))) b σ (fun x s => x = kb ((cStep σ).1) ∧ s = (cStep σ).2) := by
    intro k1 k2 k3 b hb hbo
    have n59 : σ 1 2064 ≤ 59 := by omega
    rw [kif_f (by omega), kif_f (by omega)] at e
    have L := snL_v (k := tWi σ) (τ := σ) ⟨n0, n59⟩
    have Lk := snL_k (k := tWi σ) s ⟨n0, n59⟩
    have O := cOrd_G (k := tWi σ) (r := 2206 + 6 * σ 1 2064) Lk (by omega)
    have tl : tx0 (snL (tWi σ) σ) := tok_x0 (tk1_1 (tk1_kst (tk1_up0 s.1.1 (by omega)) (by omega))).1
    -- behind the checks
    have s147 : ¬ ((tWi σ = 20 ∨ tWi σ = 21) ∧ σ 0 22 = 3) → ∀ z : Int, z = (if tWi σ = 22 then 0 else 1) → ∀ m26 : Kmem, m26 = kup σ 0 23 (σ 0 23 + z) → (0 ≤ 2206 + (6 * (σ 1 2064)) ∧ 2206 + (6 * (σ 1 2064)) < 3598) ∧ ∀ m29 : Kmem, m29 = kup m26 1 (2206 + (6 * (σ 1 2064))) (tWi σ) → E_X12_seasonStep_147 G (tWi σ) (σ 1 2064) (2206 + (6 * (σ 1 2064))) b 1 m29 (fun x s => x = kb ((cStep σ).1) ∧ s = (cStep σ).2) := by
      intro nd z hz m26 e26
      refine ⟨by omega, fun m29 e29 => ?_⟩
      rw [kif_f nd] at e
      refine (kloopP (E := fun i τ => E_X12_seasonStep_147 G (tWi σ) (σ 1 2064) (2206 + (6 * (σ 1 2064))) b (1 + i) τ (fun x s => x = kb ((cStep σ).1) ∧ s = (cStep σ).2)) (fun i τ => τ = kst m26 1 (fun j => if j = 2206 + 6 * σ 1 2064 then tWi σ else if 2206 + 6 * σ 1 2064 < j ∧ j < 2206 + 6 * σ 1 2064 + (1 + (i : Int)) then 0 else σ 1 j)) 5 (fun i τ hi hI ih => S_X12_seasonStep_147 ⟨by constructor <;> omega, fun q m52 e52 => ?_, fun q => ⟨by omega, fun m67 e67 => ?_⟩⟩) (τ := m29) ?_ : E_X12_seasonStep_147 G (tWi σ) (σ 1 2064) (2206 + (6 * (σ 1 2064))) b (1 + 0) m29 (fun x s => x = kb ((cStep σ).1) ∧ s = (cStep σ).2))
      · have E : m52 = snL (tWi σ) σ := by
          have v : τ 1 2064 = σ 1 2064 := by rw [hI, kst_eq, if_neg (by omega), if_neg (by omega)]
          rw [e52, v, hI, e26, hz, show ((i : Nat) : Int) = 5 by omega]
          rfl
        rw [E]
        refine ⟨tl, ⟨Lk, by constructor <;> omega, by omega, by omega⟩, fun y => ?_, fun n => ?_⟩
        · rw [cThen_t y] at e
          have t1 := O.2.1 y
          have u22 : (cOrd (tWi σ) (2206 + 6 * σ 1 2064) (tA (snL (tWi σ) σ))).2 0 22 = σ 0 22 := by rw [O.1.2.1 22 (by omega), tA_fr.2 22 (by omega)]; exact L.1.2.2.1
          have u8 : (cOrd (tWi σ) (2206 + 6 * σ 1 2064) (tA (snL (tWi σ) σ))).2 8 = σ 8 := by rw [O.1.1 8 (by omega) (by omega) (by omega), tA_fr.1 8 (by omega)]; exact L.1.2.2.2
          rw [e]
          generalize (cOrd (tWi σ) (2206 + 6 * σ 1 2064) (tA (snL (tWi σ) σ))).2 = u at *
          refine ⟨by constructor <;> omega, fun b0 => ?_, fun b1 => ⟨by omega, fun m62 e62 m64 e64 => ?_⟩⟩
          · refine step_222 t1 k1 rfl ⟨n0, n59⟩ (fun q => ?_) (by omega) ⟨rfl, rfl⟩
            have := k2 q
            have := (pi.2.1 (σ 0 22 - 1) (by omega) (by omega)).1
            rw [u8, u22]; omega
          · have x : m62 0 22 = u 0 22 := by rw [e62, kup_x (by omega)]
            exact step_222o t1 (hbo.1 (by omega)) (by rw [e64, x, e62]) ⟨rfl, rfl⟩
        · rw [cThen_f n] at e
          rw [e]; exact ⟨kbF, rfl⟩
      · rw [show (1 : Int) + (i : Int) + 1 = 1 + ((i : Int) + 1) by omega]
        refine ih (by omega) m67 ?_
        rw [e67, hI, kup_st]
        congr 1
        funext j
        unfold ku
        dsimp only
        by_cases a : j = 2206 + 6 * σ 1 2064 + (1 + (i : Int))
        · rw [if_pos a, if_neg (by omega), if_pos (by omega)]
        · rw [if_neg a]
          by_cases a2 : j = 2206 + 6 * σ 1 2064
          · rw [if_pos a2, if_pos a2]
          · rw [if_neg a2, if_neg a2]
            by_cases a3 : 2206 + 6 * σ 1 2064 < j ∧ j < 2206 + 6 * σ 1 2064 + (1 + (i : Int))
            · rw [if_pos a3, if_pos (by omega)]
            · rw [if_neg a3, if_neg (by omega)]
      · have m1e : m26 1 = σ 1 := by rw [e26, kup_o (by omega)]
        rw [e29, kup_k, m1e]
        congr 1
        funext j
        unfold ku
        by_cases a : j = 2206 + 6 * σ 1 2064
        · rw [if_pos a, if_pos a]
        · rw [if_neg a, if_neg a, if_neg (by omega)]
    have two : ¬ ((tWi σ = 20 ∨ tWi σ = 21) ∧ σ 0 22 = 3) → (rI (tWi σ)) ∧ ((tWi σ ≠ 22 → ∀ m26 : Kmem, m26 = (kup σ 0 23 ((σ 0 23) + 1)) → (0 ≤ (2206 + (6 * (σ 1 2064))) ∧ (2206 + (6 * (σ 1 2064))) < 3598) ∧ ∀ m29 : Kmem, m29 = (kup m26 1 (2206 + (6 * (σ 1 2064))) (tWi σ)) → E_X12_seasonStep_147 G (tWi σ) (σ 1 2064) (2206 + (6 * (σ 1 2064))) b 1 m29 (fun x s => x = kb ((cStep σ).1) ∧ s = (cStep σ).2)) ∧ (tWi σ = 22 → ∀ m31 : Kmem, m31 = (kup σ 0 23 ((σ 0 23) + 0)) → (0 ≤ (2206 + (6 * (σ 1 2064))) ∧ (2206 + (6 * (σ 1 2064))) < 3598) ∧ ∀ m34 : Kmem, m34 = (kup m31 1 (2206 + (6 * (σ 1 2064))) (tWi σ)) → E_X12_seasonStep_147 G (tWi σ) (σ 1 2064) (2206 + (6 * (σ 1 2064))) b 1 m34 (fun x s => x = kb ((cStep σ).1) ∧ s = (cStep σ).2))) := fun nd =>
      ⟨by constructor <;> omega, fun q => s147 nd 1 (by rw [if_neg q]), fun q => s147 nd 0 (by rw [if_pos q])⟩
    refine S_X12_seasonStep_97 ⟨by constructor <;> omega, fun b0 => two (by omega), fun b1 => ⟨by constructor <;> omega, fun q => two (by omega), fun q => bad 7 ?_⟩⟩
    rw [kif_t ⟨hbo.1 (by omega), q⟩] at e; exact e
  have s42 : ∀ b : Int, (b = 0 ∨ b = 1) → (b = 1 ↔ (tWi σ = 20 ∨ tWi σ = 21)) → E_X12_seasonStep_42 G (tWi σ) (σ 1 2064) (2206 + (6 * (σ 1 2064))) b σ (fun x s => x = kb ((cStep σ).1) ∧ s = (cStep σ).2) := by
    intro b hb hbo
    have f6 : tWi σ ≠ 22 → 15 ≤ tWi σ ∧ tWi σ ≤ 23 → σ 0 23 = 30 → cStep σ = (False, tF σ 6) := fun a1 a2 a3 => by
      rw [kif_f (by omega), kif_t ⟨a1, a3⟩] at e; exact e
    have f2 : (tWi σ < 15 ∨ 23 < tWi σ ∨ (tWi σ = 22 ∧ σ 0 22 = 0)) → cStep σ = (False, tF σ 2) := fun a => by rw [kif_t a] at e; exact e
    refine S_X12_seasonStep_42 ⟨by constructor <;> omega, fun q => bad 2 (f2 (by omega)), fun q => ⟨fun q2 => bad 2 (f2 (by omega)), fun q2 => ⟨fun q3 => ⟨fun q4 => absurd q4 q3, fun _ => ⟨by constructor <;> omega, fun q5 => s97 ⟨q, q2⟩ (fun z => absurd z q3) (fun _ => q5) b hb hbo, fun q5 => bad 6 (f6 q3 ⟨q, q2⟩ q5)⟩⟩, fun q3 => ⟨by constructor <;> omega, fun q4 => ⟨fun _ => s97 ⟨q, q2⟩ (fun _ => q4) (fun z => absurd q3 z) b hb hbo, fun z => absurd q3 z⟩, fun q4 => bad 2 (f2 (by omega))⟩⟩⟩⟩
  exact S_X12_seasonStep ⟨tkk, by constructor <;> omega, fun q => s42 1 (Or.inr rfl) ⟨fun _ => Or.inl q, fun _ => rfl⟩, fun q => ⟨fun q2 => s42 0 (Or.inl rfl) ⟨fun z => absurd z (by decide), fun z => by omega⟩, fun q2 => s42 1 (Or.inr rfl) ⟨fun _ => Or.inr q2, fun _ => rfl⟩⟩⟩
