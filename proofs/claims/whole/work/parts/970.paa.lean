/-! KiteLandModel.seasons(I)I, as the text has it -/
noncomputable def cSea : Nat → Kmem → Kmem
  | 0, τ => τ
  | n + 1, τ => kif (τ 0 12 = 0) τ (kif (cStep τ).1 (cSea n (cStep τ).2) (cStep τ).2)
theorem cSea_ok : ∀ (n : Nat) (τ : Kmem), snI τ → 901 - τ 0 13 < n → ((cSea n τ 0 18 = 0 → snI (cSea n τ) ∧ cSea n τ 0 12 = 0) ∧ (cSea n τ 0 18 ≠ 0 → 1 ≤ cSea n τ 0 18 ∧ cSea n τ 0 18 ≤ 9)) ∧ (tok (cSea n τ) ∧ nmR (cSea n τ)) ∧ fS (cSea n τ) τ
  | 0, τ, c, h => by
    have := c.1.1.1.1.2.1
    have := c.1.1.1.1.1.1
    omega
  | n + 1, τ, c, h => by
    have e : cSea (n + 1) τ = kif (τ 0 12 = 0) τ (kif (cStep τ).1 (cSea n (cStep τ).2) (cStep τ).2) := rfl
    by_cases a : τ 0 12 = 0
    · rw [e, kif_t a]; exact ⟨⟨fun _ => ⟨c, a⟩, fun q => absurd c.1.1.1.2 q⟩, ⟨c.1.1.1.1, c.1.1.2⟩, fS.refl⟩
    rw [kif_f a] at e
    by_cases b : (cStep τ).1
    · rw [e, kif_t b]
      obtain ⟨p1, p2, p3⟩ := cStep_ok c b
      obtain ⟨i1, i2, i3⟩ := cSea_ok n _ p1 (by omega)
      exact ⟨i1, i2, i3.trans p2⟩
    · rw [e, kif_f b]
      obtain ⟨⟨p1, p2⟩, p3, p4⟩ := cStep_no c b
      exact ⟨⟨fun q => by omega, fun _ => p1⟩, ⟨p2, p3⟩, p4⟩
theorem sea_38 {G : Kg} {Q : Int → Kmem → Prop} : ∀ (n : Nat) (τ : Kmem), snI τ → 901 - τ 0 13 < n → E_X12_seasons_57 G (cSea n τ) Q → E_X12_seasons_38 G 1 τ Q
  | 0, τ, c, h, _ => by
    have := c.1.1.1.1.2.1
    have := c.1.1.1.1.1.1
    omega
  | n + 1, τ, c, h, k => by
    have e : cSea (n + 1) τ = kif (τ 0 12 = 0) τ (kif (cStep τ).1 (cSea n (cStep τ).2) (cStep τ).2) := rfl
    have r12 := c.1.1.1.1.2.2.1
    refine S_X12_seasons_38 (l1 := 0) ⟨by decide, fun q => absurd q (by decide), fun _ => ⟨by constructor <;> omega, fun a => ?_, fun a => ⟨c, ?_⟩⟩⟩
    · rw [kif_t a] at e; rw [e] at k; exact k
    · rw [kif_f a] at e
      by_cases b : (cStep τ).1
      · rw [kif_t b] at e
        rw [kb_1 b]
        rw [e] at k
        have p := cStep_ok c b
        exact sea_38 n _ p.1 (by omega) k
      · rw [kif_f b] at e
        rw [kb_0 b]
        rw [e] at k
        exact S_X12_seasons_38 (l1 := 0) ⟨by decide, fun _ => k, fun q => absurd rfl q⟩
def sS0 (τ : Kmem) : Kmem := kup (kup (kup τ 1 2064 0) 0 22 0) 0 23 0
noncomputable def tSe (σ : Kmem) (n : Int) : Kmem := cSea 902 (sS0 (tA (tB0 σ n)))
noncomputable def tSf (u : Kmem) : Kmem := kif (u 0 18 = 0 ∧ 0 < u 0 22) (tF u 2) u
def tSq (u : Kmem) : Kmem := kst u 1 (fun j => if j = 8 then u 1 2064 else if 150 ≤ j ∧ j < 510 then u 1 (2056 + j) else u 1 j)
theorem sS0_I {σ : Kmem} {n : Int} (h : tpR σ) (hn : 0 ≤ n ∧ n ≤ 900) (nm : nmR σ) (h2 : 0 ≤ σ 1 2 ∧ σ 1 2 ≤ 6) (h3 : 0 ≤ σ 1 3 ∧ σ 1 3 ≤ 8) : snI (sS0 (tA (tB0 σ n))) := by
  have t := tA_tk1 h hn
  have a1 : (tA (tB0 σ n)) 1 = σ 1 := by rw [tA_fr.1 1 (by omega), (tB0_v (σ := σ) (n := n)).2.2.1 1 (by omega) (by omega)]
  have a2 : (sS0 (tA (tB0 σ n))) 2 = σ 2 := by unfold sS0; rw [kup_o (x := 2) (by omega), kup_o (x := 2) (by omega), kup_o (x := 2) (by omega)]; exact tAB_2
  have v1 : ∀ j, j ≠ 2064 → sS0 (tA (tB0 σ n)) 1 j = σ 1 j := fun j hj => by unfold sS0; rw [kup_x (by omega), kup_x (by omega), kup_j hj, a1]
  have v22 : sS0 (tA (tB0 σ n)) 0 22 = 0 := by unfold sS0; rw [kup_j (by omega), kup_at]
  have v23 : sS0 (tA (tB0 σ n)) 0 23 = 0 := by unfold sS0; rw [kup_at]
  have vn : sS0 (tA (tB0 σ n)) 1 2064 = 0 := by unfold sS0; rw [kup_x (by omega), kup_x (by omega), kup_at]
  refine ⟨⟨⟨tk1_up0 (tk1_up0 (tk1_1 t) (by omega)) (by omega), nm_same a2 nm⟩, by rw [v1 2 (by omega)]; exact h2, by rw [v1 3 (by omega)]; exact h3⟩, by rw [v22, v23, vn]; omega, ?_⟩
  rw [v22, vn]
  exact ⟨fun k a b => by omega, ⟨fun i a b => by omega, fun k a b => by omega, fun k a b => by omega⟩⟩
theorem P_X12_seasons {G : Kg} {σ : Kmem} {n : Int} (p : tpR σ ∧ nmR σ ∧ rI n ∧ (0 ≤ σ 1 2 ∧ σ 1 2 ≤ 6) ∧ (0 ≤ σ 1 3 ∧ σ 1 3 ≤ 8)) : Run G WM M_X12_seasons 11 0 0 [vA G 0, vI n] σ (fun x s => (¬ (0 ≤ n ∧ n ≤ σ 0 10 ∧ n ≤ 300) → x = -1 ∧ s = kup σ 0 2 1) ∧ ((0 ≤ n ∧ n ≤ σ 0 10 ∧ n ≤ 300) → (tSf (tSe σ n) 0 18 ≠ 0 → x = -1 ∧ s = tTk (tSf (tSe σ n))) ∧ (tSf (tSe σ n) 0 18 = 0 → x = tSe σ n 0 23 ∧ s = tTk (tSq (tSe σ n))))) := by
  obtain ⟨ht, hn, hi, h2, h3⟩ := p
  refine S_X12_seasons (Run.mono (P_X12_begins ⟨ht, hi, by decide⟩) (fun r s e => ?_))
  obtain ⟨e1, e2⟩ := e
  by_cases ok : 0 ≤ n ∧ n ≤ σ 0 10 ∧ n ≤ 300
  rotate_left
  · rw [kb_0 ok] at e1
    rw [kif_f ok] at e2
    subst e1; subst e2
    exact ⟨by decide, fun q => absurd rfl q, fun _ => ⟨fun _ => ⟨rfl, rfl⟩, fun q => absurd q ok⟩⟩
  rw [kb_1 ok] at e1
  rw [kif_t ok] at e2
  subst e1; subst e2
  refine ⟨by decide, fun _ m4 e4 m6 e6 m8 e8 => ?_, fun q => absurd q (by decide)⟩
  have E : m8 = sS0 (tA (tB0 σ n)) := by rw [e8, e6, e4]; rfl
  have c := sS0_I ht (show 0 ≤ n ∧ n ≤ 900 by omega) hn h2 h3
  have c13 := c.1.1.1.1.2.1
  rw [E]
  have ok2 := cSea_ok 902 _ c (by omega)
  have hC : cSea 902 (sS0 (tA (tB0 σ n))) = tSe σ n := rfl
  rw [hC] at ok2
  refine sea_38 902 _ c (by omega) ?_
  rw [hC]
  generalize tSe σ n = u at *
  obtain ⟨⟨o1, o2⟩, ⟨o3, o4⟩, o5⟩ := ok2
  have r18 : 0 ≤ u 0 18 ∧ u 0 18 ≤ 9 := by
    by_cases q : u 0 18 = 0
    · omega
    · have := o2 q; omega
  have good : ∀ b : Prop, b → (u 0 18 = 0 ∧ ¬ 0 < u 0 22) → ((u 0 18 ≠ 0 → Run G WM M_X12_taken 1 0 0 [vA G 0, vI (u 0 23)] u (fun r18 s19 => (¬ (0 ≤ n ∧ n ≤ σ 0 10 ∧ n ≤ 300) → r18 = -1 ∧ s19 = kup σ 0 2 1) ∧ ((0 ≤ n ∧ n ≤ σ 0 10 ∧ n ≤ 300) → (tSf u 0 18 ≠ 0 → r18 = -1 ∧ s19 = tTk (tSf u)) ∧ (tSf u 0 18 = 0 → r18 = u 0 23 ∧ s19 = tTk (tSq u))))) ∧ (u 0 18 = 0 → ∀ m20 : Kmem, m20 = (kup u 1 8 (u 1 2064)) → E_X12_seasons_103 G 150 m20 (fun r18 s19 => (¬ (0 ≤ n ∧ n ≤ σ 0 10 ∧ n ≤ 300) → r18 = -1 ∧ s19 = kup σ 0 2 1) ∧ ((0 ≤ n ∧ n ≤ σ 0 10 ∧ n ≤ 300) → (tSf u 0 18 ≠ 0 → r18 = -1 ∧ s19 = tTk (tSf u)) ∧ (tSf u 0 18 = 0 → r18 = u 0 23 ∧ s19 = tTk (tSq u)))))) := by
    intro _ _ q
    have F : tSf u = u := kif_f (by omega)
    rw [F]
    refine ⟨fun z => absurd q.1 z, fun _ m20 e20 => ?_⟩
    refine (kloopP (E := fun i τ => E_X12_seasons_103 G (150 + i) τ _) (fun i τ => τ = kst u 1 (fun j => if j = 8 then u 1 2064 else if 150 ≤ j ∧ j < 150 + (i : Int) then u 1 (2056 + j) else u 1 j)) 360 (fun i τ hi hI ih => S_X12_seasons_103 (l1 := 0) ⟨by constructor <;> omega, fun z => ?_, fun z => ⟨by omega, by omega, fun m40 e40 => ?_⟩⟩) ?_ : E_X12_seasons_103 G (150 + 0) m20 _)
    · have E2 : τ = tSq u := by rw [hI, show ((i : Nat) : Int) = 360 by omega]; rfl
      have t0 : τ 0 = u 0 := by rw [hI, kst_ne (by omega)]
      have t18 : τ 0 18 = 0 := by rw [t0]; exact q.1
      refine Run.mono (P_X12_taken (by omega)) (fun r s e => ⟨fun z => absurd ok z, fun _ => ⟨fun z => absurd q.1 z, fun _ => ⟨(e.1 t18).trans (by rw [t0]), by rw [e.2.2, E2]⟩⟩⟩)
    · rw [show (150 : Int) + (i : Int) + 1 = 150 + ((i : Int) + 1) by omega]
      refine ih (by omega) m40 ?_
      have v : τ 1 (2056 + (150 + (i : Int))) = u 1 (2056 + (150 + (i : Int))) := by rw [hI, kst_eq, if_neg (by omega), if_neg (by omega)]
      rw [e40, v, hI, kup_st]
      congr 1
      funext j
      unfold ku
      dsimp only
      by_cases a : j = 150 + (i : Int)
      · rw [if_pos a, if_neg (by omega), if_pos (by omega), a]
      · rw [if_neg a]
        by_cases a2 : j = 8
        · rw [if_pos a2, if_pos a2]
        · rw [if_neg a2, if_neg a2]
          by_cases a3 : 150 ≤ j ∧ j < 150 + (i : Int)
          · rw [if_pos a3, if_pos (by omega)]
          · rw [if_neg a3, if_neg (by omega)]
    · rw [e20, kup_k]
      congr 1
      funext j
      unfold ku
      by_cases a : j = 8
      · rw [if_pos a, if_pos a]
      · rw [if_neg a, if_neg a, if_neg (by omega)]
  refine S_X12_seasons_57 (l1 := 0) ⟨by constructor <;> omega, fun q => ⟨fun _ => ?_, fun z => absurd z q⟩, fun q => ?_⟩
  · have F : tSf u = u := kif_f (by omega)
    rw [F]
    exact Run.mono (P_X12_taken r18) (fun r s e => ⟨fun z => absurd ok z, fun _ => ⟨fun _ => ⟨e.2.1 q, e.2.2⟩, fun z => absurd z q⟩⟩)
  · obtain ⟨i1, i2⟩ := o1 q
    have d3 := i1.2.1.2.1
    refine ⟨by constructor <;> omega, fun le => good True trivial ⟨q, by omega⟩, fun lt => ⟨⟨o3, by omega, by omega⟩, ?_⟩⟩
    have F : tSf u = tF u 2 := kif_t ⟨q, lt⟩
    have f18 := (tF_18 (k := 2) q).1
    have nz : 1 ≤ tF u 2 0 18 ∧ tF u 2 0 18 ≤ 2 := by
      rw [f18]
      by_cases a : u 0 12 = 1
      · rw [kif_t a]; omega
      · rw [kif_f a]; omega
    rw [F]
    refine ⟨by constructor <;> omega, fun _ => ?_, fun z => by omega⟩
    exact Run.mono (P_X12_taken (by omega)) (fun r s e => ⟨fun z => absurd ok z, fun _ => ⟨fun _ => ⟨e.2.1 (by omega), e.2.2⟩, fun z => by omega⟩⟩)
/-- SEASONS that were taken are well formed -/
theorem pwf_read {w : Int → Int} {n : Int} {o : Int → Int} (hn : 0 ≤ n ∧ n ≤ 60) (h : pI w (w 2) (w 3) n 0 o) (h8 : w 8 = n) : pwf w := by
  obtain ⟨hL, hA, hB, hC⟩ := h
  have cl : ∀ k, 0 ≤ k → k < n → pOp (w (150 + 6 * k)) → (k < w (150 + 6 * k + 4) ∧ w (150 + 6 * k + 4) < n) ∧ w (150 + 6 * (w (150 + 6 * k + 4))) = 22 ∧ w (150 + 6 * (w (150 + 6 * k + 4)) + 4) = k ∧ ∀ b, k < b → b < w (150 + 6 * k + 4) → pOp (w (150 + 6 * b)) → w (150 + 6 * b + 4) < w (150 + 6 * k + 4) := by
    intro k a b p
    rcases hB k a b p with ⟨i, hi, -⟩ | ⟨x1, x2, x3, x4⟩
    · omega
    · exact ⟨x1, x2, x3, fun b' c1 c2 c3 => (x4 b' c1 c2 c3).1⟩
  refine ⟨by omega, fun k a b => ?_, fun o' b h0 h1 h2 p1 p2 hb => ?_⟩
  · have l := hL k a (by omega)
    unfold pL0 at l
    obtain ⟨l1, l2, l3, l4, l5, l6, l7⟩ := l
    refine ⟨l1, l2, l3, l4, l5, l6, l7, fun p => ?_, fun p => ?_⟩
    · have := cl k a (by omega) p
      rw [h8]
      exact ⟨this.1, this.2.1, this.2.2.1⟩
    · have := hC k a (by omega) p
      exact ⟨this.1, this.2.1, this.2.2.1⟩
  · exact (cl o' h0 (by omega) p1).2.2.2 b h1 h2 p2
