/-! KiteLandModel.countyPart()Z, as the text has it -/
theorem part_159 {G : Kg} {σ : Kmem} {Q : Int → Kmem → Prop} {l1 p0 p1 to hi : Int} (h : tk1 σ) (e : to = p1 + p0) (ht : 2056 ≤ to ∧ to < 2570) (hk : l1 = 2 ∧ hi = 11 ∨ l1 = 3 ∧ hi = 2) (hQ : Q (kb ((cThen (cNum to 0 hi σ) (cSign 59)).1)) (cThen (cNum to 0 hi σ) (cSign 59)).2) : E_X12_countyPart_159 G l1 p0 p1 σ Q := by
  subst e
  have N := cNum_G (lo := 0) (hi := hi) h ht
  have go : ∀ hi' : Int, hi' = hi → (tk1 σ ∧ ((0 : Int) ≤ (p1 + p0) ∧ ((p1 + p0) : Int) < 3598) ∧ rI (0) ∧ rI (hi)) ∧ ((¬ ((cNum (p1 + p0) 0 hi' σ).1) → Q 0 ((cNum (p1 + p0) 0 hi' σ).2)) ∧ (((cNum (p1 + p0) 0 hi' σ).1) → (tk1 ((cNum (p1 + p0) 0 hi' σ).2) ∧ rI (59)) ∧ ((¬ ((cSign (59) ((cNum (p1 + p0) 0 hi' σ).2)).1) → Q 0 ((cSign (59) ((cNum (p1 + p0) 0 hi' σ).2)).2)) ∧ (((cSign (59) ((cNum (p1 + p0) 0 hi' σ).2)).1) → Q 1 ((cSign (59) ((cNum (p1 + p0) 0 hi' σ).2)).2))))) := by
    intro hi' eh
    subst eh
    refine ⟨⟨h, by omega, by decide, by rcases hk with ⟨-, k⟩ | ⟨-, k⟩ <;> rw [k] <;> decide⟩, fun n => ?_, fun y => ⟨⟨N.2.1 y, by decide⟩, fun n => ?_, fun y2 => ?_⟩⟩
    · rw [cThen_f n] at hQ; have q : Q (kb False) _ := hQ; rw [← kbF] at q; exact q
    · rw [cThen_t y, ← kbN n] at hQ; exact hQ
    · rw [cThen_t y, ← kbY y2] at hQ; exact hQ
  refine S_X12_countyPart_159 ⟨by rcases hk with ⟨k, -⟩ | ⟨k, -⟩ <;> rw [k] <;> decide, fun n => ?_, fun y => ?_⟩
  · obtain ⟨-, k⟩ : l1 = 3 ∧ hi = 2 := by omega
    subst k; exact go 2 rfl
  · obtain ⟨-, k⟩ : l1 = 2 ∧ hi = 11 := by omega
    subst k; exact go 11 rfl
theorem part_80 {G : Kg} {σ : Kmem} {Q : Int → Kmem → Prop} {l1 p0 p1 : Int} (h : tk2 (kup σ 0 20 (kor p1 p0))) (hl : 0 ≤ l1 ∧ l1 ≤ 6) (hQ : Q (kb ((cThen (cBody l1 (kup σ 0 20 (kor p1 p0))) (cSign 59)).1)) (cThen (cBody l1 (kup σ 0 20 (kor p1 p0))) (cSign 59)).2) : E_X12_countyPart_80 G l1 p0 p1 σ Q := by
  refine S_X12_countyPart_80 (fun u eu => ?_)
  rw [← eu] at h hQ
  have B := (cBody_G (k := l1) h).1
  have t := tA_k1 (tok_x0 h.1.1) h.1.2
  have go : ∀ r : Prop × Kmem, cBody l1 u = r → (tk2 u) ∧ ((¬ (r.1) → Q 0 (r.2)) ∧ ((r.1) → (tk1 (r.2) ∧ rI (59)) ∧ ((¬ ((cSign (59) (r.2)).1) → Q 0 ((cSign (59) (r.2)).2)) ∧ (((cSign (59) (r.2)).1) → Q 1 ((cSign (59) (r.2)).2))))) := by
    intro r er
    rw [er] at B hQ
    refine ⟨h, fun n => ?_, fun y => ⟨⟨B.2.1 y, by decide⟩, fun n => ?_, fun y2 => ?_⟩⟩
    · rw [cThen_f n] at hQ; have q : Q (kb False) _ := hQ; rw [← kbF] at q; exact q
    · rw [cThen_t y, ← kbN n] at hQ; exact hQ
    · rw [cThen_t y, ← kbY y2] at hQ; exact hQ
  refine ⟨by constructor <;> omega, fun k => go _ ?_, fun k => go _ ?_, fun k => ⟨tok_x0 h.1.1, fun n => absurd k n, fun _ => ?_⟩, fun k => ⟨tok_x0 h.1.1, fun _ => ?_, fun n => absurd n (by omega)⟩, fun k => go _ ?_, fun k => go _ ?_, fun k => go _ ?_⟩
  · rw [k]; rfl
  · rw [k]; rfl
  · refine part_159 (to := 2061) (hi := 11) t (by omega) (by omega) (Or.inl ⟨k, rfl⟩) ?_
    rw [k] at hQ; exact hQ
  · refine part_159 (to := 2062) (hi := 2) t (by omega) (by omega) (Or.inr ⟨k, rfl⟩) ?_
    rw [k] at hQ; exact hQ
  · rw [k]; rfl
  · rw [k]; rfl
  · have k : l1 = 6 := by omega
    rw [k]; rfl
theorem tk2_20 {τ : Kmem} {y : Int} (h : tk2 τ) : tk2 (kup τ 0 20 y) := by
  refine ⟨(tk1_20 h.1).1, nm_same (kup_o (by omega)) h.2.1, ?_⟩
  have := h.2.2
  unfold cty at *
  rw [kup_o (x := 1) (by omega)]; exact this
theorem P_X12_countyPart {G : Kg} {σ : Kmem} (p : tk2 σ ∧ (0 : Int) ≤ σ 0 20 ∧ (σ 0 20 : Int) < 16) : Run G WM M_X12_countyPart 8 0 0 [vA G 0] σ (fun x s => x = kb ((cPart σ).1) ∧ s = (cPart σ).2) := by
  obtain ⟨h, h20⟩ := p
  have w := (tWi_ok (τ := σ)).1
  have h18 := h.1.2
  have bits := fun (hk : 0 ≤ tWi σ ∧ tWi σ < 7) => told_bits h20 hk
  have bad : ¬ (0 ≤ tWi σ ∧ tWi σ ≤ 6 ∧ (tWi σ = 0 ∨ σ 0 20 % 2 = 1)) → cPart σ = (False, tF σ 2) := fun n => kif_t (by omega)
  have stepI : (0 ≤ tWi σ ∧ tWi σ ≤ 6 ∧ (tWi σ = 0 ∨ σ 0 20 % 2 = 1)) → E_X12_countyPart_36 G (tWi σ) σ (fun x s => x = kb ((cPart σ).1) ∧ s = (cPart σ).2) := by
    intro ok
    obtain ⟨b1, b2, b3⟩ := bits (by omega)
    refine S_X12_countyPart_36 ⟨by rw [b1]; constructor <;> omega, fun n => ?_, fun y => ?_⟩
    · rw [b1] at n
      obtain ⟨c1, c2, c3⟩ := b3 n
      have e : cPart σ = cThen (cBody (tWi σ) (kup σ 0 20 (kTo (σ 0 20) (tWi σ)))) (cSign 59) := by
        unfold cPart; rw [kif_f (by omega), kif_f n]
      have go : ∀ z : Int, kor (σ 0 20) z = kTo (σ 0 20) (tWi σ) → E_X12_countyPart_80 G (tWi σ) z (σ 0 20) σ (fun x s => x = kb ((cPart σ).1) ∧ s = (cPart σ).2) := by
        intro z ez
        refine part_80 (tk2_20 h) (by omega) ?_
        rw [ez, e]; exact ⟨rfl, rfl⟩
      refine ⟨by constructor <;> omega, fun k => go _ (c1 (by omega)), fun k => ⟨fun k2 => go _ (c1 (by omega)), fun k2 => ⟨fun k3 => go _ (c2 k k2 k3), fun k3 => go _ (c1 (by omega))⟩⟩⟩
    · rw [b1] at y
      have e : cPart σ = (False, tF σ 5) := by unfold cPart; rw [kif_f (by omega), kif_t y]
      rw [e]
      exact ⟨⟨h.1.1, by omega, by omega⟩, kbF, rfl⟩
  refine S_X12_countyPart ⟨h.1.1, by constructor <;> omega, fun n => ?_, fun n0 => ⟨fun n => ?_, fun n6 => ⟨fun k => stepI (by omega), fun k => ?_⟩⟩⟩
  · rw [bad (by omega)]; exact ⟨⟨h.1.1, by omega, by omega⟩, kbF, rfl⟩
  · rw [bad (by omega)]; exact ⟨⟨h.1.1, by omega, by omega⟩, kbF, rfl⟩
  · have b2 := (bits (by omega)).2.1
    rw [b2]
    refine ⟨by constructor <;> omega, fun y => stepI (by omega), fun n => ?_⟩
    rw [bad (by omega)]; exact ⟨⟨h.1.1, by omega, by omega⟩, kbF, rfl⟩
