/-! County: names, and the plain county -/
theorem P_X0_kiteNamed {G : Kg} {σ : Kmem} {c x y n b : Int} {f : Int → Int} (hc : isC c) (p : σ c 5 = n ∧ (0 ≤ n ∧ n ≤ 6) ∧ nmB σ (c + 6) n f b ∧ nmE x y) : Run G WX M_X0_kiteNamed 0 0 0 [vA G c, vL x] σ (fun r s => r = fst (fun k => f (b + k) = y) n.toNat 0 ∧ s = σ) := by
  obtain ⟨h5, hn, nm, e⟩ := p
  refine S_X0_kiteNamed hc (kloopP (E := fun i τ => E_X0_kiteNamed_2 G c x i τ (fun r s => r = fst (fun k => f (b + k) = y) n.toNat 0 ∧ s = σ)) (fun i τ => τ = σ ∧ ∀ j : Nat, j < i → f (b + j) ≠ y) n.toNat (fun i τ hi hI ih => ?_) ⟨rfl, fun j hj => absurd hj (by omega)⟩)
  obtain ⟨es, hI⟩ := hI
  subst es
  refine S_X0_kiteNamed_2 hc ⟨by constructor <;> omega, by rw [h5]; constructor <;> omega, fun q => ⟨((fst_none _ _).2 (fun k _ hk => hI k (by omega))).symm, rfl⟩, fun q => ?_⟩
  have N := nm i (by omega) (by omega)
  have I := nmE_iff N e
  refine ⟨by omega, nmE_r N, nmE_r e, fun ne => ih (by omega) _ ⟨rfl, fun j hj => ?_⟩, fun eq => ⟨(fst_at _ _ i (by omega) (by omega) (I.1 eq) (fun j _ hj => hI j hj)).symm, rfl⟩⟩
  by_cases z : j = i
  · rw [z]; exact fun w => ne (I.2 w)
  · exact hI j (by omega)
theorem P_X0_cropNamed {G : Kg} {σ : Kmem} {c x y n b : Int} {f : Int → Int} (hc : isC c) (p : σ c 6 = n ∧ (0 ≤ n ∧ n ≤ 8) ∧ nmB σ (c + 12) n f b ∧ nmE x y) : Run G WX M_X0_cropNamed 0 0 0 [vA G c, vL x] σ (fun r s => r = fst (fun k => f (b + k) = y) n.toNat 0 ∧ s = σ) := by
  obtain ⟨h5, hn, nm, e⟩ := p
  refine S_X0_cropNamed hc (kloopP (E := fun i τ => E_X0_cropNamed_2 G c x i τ (fun r s => r = fst (fun k => f (b + k) = y) n.toNat 0 ∧ s = σ)) (fun i τ => τ = σ ∧ ∀ j : Nat, j < i → f (b + j) ≠ y) n.toNat (fun i τ hi hI ih => ?_) ⟨rfl, fun j hj => absurd hj (by omega)⟩)
  obtain ⟨es, hI⟩ := hI
  subst es
  refine S_X0_cropNamed_2 hc ⟨by constructor <;> omega, by rw [h5]; constructor <;> omega, fun q => ⟨((fst_none _ _).2 (fun k _ hk => hI k (by omega))).symm, rfl⟩, fun q => ?_⟩
  have N := nm i (by omega) (by omega)
  have I := nmE_iff N e
  refine ⟨by omega, nmE_r N, nmE_r e, fun ne => ih (by omega) _ ⟨rfl, fun j hj => ?_⟩, fun eq => ⟨(fst_at _ _ i (by omega) (by omega) (I.1 eq) (fun j _ hj => hI j hj)).symm, rfl⟩⟩
  by_cases z : j = i
  · rw [z]; exact fun w => ne (I.2 w)
  · exact hI j (by omega)
theorem P_X0_hasName {G : Kg} {σ : Kmem} {c x y n2 n3 n4 b2 b3 b4 : Int} {f : Int → Int} (hc : isC c) (p2 : σ c 5 = n2 ∧ (0 ≤ n2 ∧ n2 ≤ 6) ∧ nmB σ (c + 6) n2 f b2) (p3 : σ c 6 = n3 ∧ (0 ≤ n3 ∧ n3 ≤ 8) ∧ nmB σ (c + 12) n3 f b3) (p4 : σ c 7 = n4 ∧ (0 ≤ n4 ∧ n4 ≤ 6) ∧ nmB σ (c + 20) n4 f b4) (e : nmE x y) : Run G WX M_X0_hasName 1 0 0 [vA G c, vL x] σ (fun r s => r = kb (fst (fun k => f (b2 + k) = y) n2.toNat 0 ≠ -1 ∨ fst (fun k => f (b3 + k) = y) n3.toNat 0 ≠ -1 ∨ fst (fun k => f (b4 + k) = y) n4.toNat 0 ≠ -1) ∧ s = σ) := by
  obtain ⟨h7, hn, nm⟩ := p4
  refine S_X0_hasName hc (kloopP (E := fun i τ => E_X0_hasName_2 G c x i τ (fun r s => r = kb (fst (fun k => f (b2 + k) = y) n2.toNat 0 ≠ -1 ∨ fst (fun k => f (b3 + k) = y) n3.toNat 0 ≠ -1 ∨ fst (fun k => f (b4 + k) = y) n4.toNat 0 ≠ -1) ∧ s = σ)) (fun i τ => τ = σ ∧ ∀ j : Nat, j < i → f (b4 + j) ≠ y) n4.toNat (fun i τ hi hI ih => ?_) ⟨rfl, fun j hj => absurd hj (by omega)⟩)
  obtain ⟨es, hI⟩ := hI
  subst es
  refine S_X0_hasName_2 hc ⟨by constructor <;> omega, by rw [h7]; constructor <;> omega, fun q => ?_, fun q => ?_⟩
  · have no4 : fst (fun k => f (b4 + k) = y) n4.toNat 0 = -1 := (fst_none _ _).2 (fun k _ hk => hI k (by omega))
    refine Run.mono (P_X0_kiteNamed hc ⟨p2.1, p2.2.1, p2.2.2, e⟩) (fun r s w => ?_)
    obtain ⟨w1, w2⟩ := w
    subst w2
    have r2 := fst_r (p := fun k => f (b2 + k) = y) n2.toNat 0
    refine ⟨by constructor <;> omega, fun z => ⟨(kb_1 (Or.inl (by omega))).symm, rfl⟩, fun z => Run.mono (P_X0_cropNamed hc ⟨p3.1, p3.2.1, p3.2.2, e⟩) (fun r s w => ?_)⟩
    obtain ⟨w3, w2⟩ := w
    subst w2
    have r3 := fst_r (p := fun k => f (b3 + k) = y) n3.toNat 0
    exact ⟨by constructor <;> omega, fun z2 => ⟨(kb_0 (by omega)).symm, rfl⟩, fun z2 => ⟨(kb_1 (Or.inr (Or.inl (by omega)))).symm, rfl⟩⟩
  · have N := nm i (by omega) (by omega)
    have I := nmE_iff N e
    refine ⟨by omega, nmE_r N, nmE_r e, fun ne => ih (by omega) _ ⟨rfl, fun j hj => ?_⟩, fun eq => ⟨(kb_1 (Or.inr (Or.inr ?_))).symm, rfl⟩⟩
    · by_cases z : j = i
      · rw [z]; exact fun w => ne (I.2 w)
      · exact hI j (by omega)
    · rw [fst_at _ _ i (by omega) (by omega) (I.1 eq) (fun j _ hj => hI j hj)]; omega
theorem P_X0_clear {G : Kg} {σ : Kmem} {c : Int} (hc : isC c) : Run G WX M_X0_clear 0 0 0 [vA G c] σ (fun y s => y = 0 ∧ kfm (fun x => x = c ∨ x = c + 1 ∨ x = c + 2) s σ ∧ kco s c plV) := by
  refine S_X0_clear hc (kloopP (E := fun i τ => E_X0_clear_43 G c i τ (fun y s => y = 0 ∧ kfm (fun x => x = c ∨ x = c + 1 ∨ x = c + 2) s σ ∧ kco s c plV)) (fun i τ => kfm (fun x => x = c ∨ x = c + 1 ∨ x = c + 2) τ σ ∧ kcoH τ c plV ∧ ∀ h : Int, 0 ≤ h → h < (i : Int) → τ (c + 1) h = 2 ∧ τ (c + 2) h = 2) 12 (fun i τ hi hI ih => ?_) ⟨?_, ?_, fun h a b => by omega⟩)
  · obtain ⟨I1, I2, I3⟩ := hI
    refine S_X0_clear_43 hc ⟨by constructor <;> omega, fun q => ⟨rfl, I1, I2, fun h a b => ?_, fun k a b => ?_, fun k a b => ?_, fun k a b => ?_⟩, fun q => ⟨by omega, by omega, ih (by omega) _ ⟨?_, ?_, fun h a b => ?_⟩⟩⟩
    · have := I3 h a (by omega)
      have w : plV (10 + 2 * h) = 2 ∧ plV (10 + 2 * h + 1) = 2 := by
        unfold plV
        rw [if_neg (by omega), if_neg (by omega), if_pos (by omega), if_neg (by omega), if_neg (by omega), if_pos (by omega)]; exact ⟨rfl, rfl⟩
      rw [w.1, w.2]; exact this
    · have : plV 2 = 0 := by decide
      omega
    · have : plV 3 = 0 := by decide
      omega
    · have : plV 4 = 0 := by decide
      omega
    · intro x hx
      rw [kup_o (by omega), kup_o (by omega)]; exact I1 x hx
    · unfold kcoH at *; rw [kup_o (x := c) (by omega), kup_o (x := c) (by omega)]; exact I2
    · by_cases z : h = i
      · rw [z]; exact ⟨by rw [kup_x (by omega), kup_at], kup_at⟩
      · have := I3 h a (by omega)
        rw [kup_x (by omega), kup_j z, kup_j z, kup_x (by omega)]; exact this
  · intro x hx
    rw [kup_o (by omega), kup_o (by omega), kup_o (by omega), kup_o (by omega), kup_o (by omega), kup_o (by omega), kup_o (by omega), kup_o (by omega)]
  · unfold kcoH
    simp (disch := omega) only [kup_j, kup_at]
    decide
