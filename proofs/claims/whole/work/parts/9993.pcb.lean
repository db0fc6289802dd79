theorem zP_sg {s : Int} {m m' : Kmem} {w o : Int → Int} {c n d : Int} (hs : isS s) (h : zP s m w o c n d) (f : ∀ x, x ≠ 3 → m' x = m x) : zP s m' w o c n d := by
  have fs := isS_f hs
  obtain ⟨a, b, z⟩ := h
  refine ⟨by rw [f s (by omega)]; exact a, fun i p q => by rw [f _ (by omega)]; exact b i p q, fun k p q => ?_⟩
  have := z k p q
  unfold zL1 lOk at *
  rw [f (s + 1) (by omega), f (s + 2) (by omega), f (s + 3) (by omega), f (s + 4) (by omega), f (s + 5) (by omega)]
  exact this
theorem seaAll {G : Kg} {σ : Kmem} {s c : Int} (hs : isS s) (hc : isC c) (far : c + 26 ≤ s ∨ s + 7 ≤ c) : ∀ (n : Nat) (l : Int) (m τ : Kmem), tRs m τ → zP s m (vN τ) (τ 8) (τ 0 23) (τ 1 2064) (τ 0 22) → snI τ → nmZ m c τ → 901 - τ 0 13 < n → (0 ≤ l ∧ l ≤ τ 0 13) → τ 0 11 ≤ 300 → kfm (aS s) m σ → E_X7_readAll_6 G s c l m (fun y t => rSea s (cSea n τ) σ y t)
  | 0, l, m, τ, _, _, ci, _, h, _, _, _ => by
    have := ci.1.1.1.1.2.1
    have := ci.1.1.1.1.1.1
    omega
  | n + 1, l, m, τ, h1, z, ci, nz, h, hl, h11, fr => by
    have fs := isS_f hs
    have e : cSea (n + 1) τ = kif (τ 0 12 = 0) τ (kif (cStep τ).1 (cSea n (cStep τ).2) (cStep τ).2) := rfl
    have t := ci.1.1.1
    have r := t.1.2.1
    have e2 := h1.2.1.1
    obtain ⟨⟨n0, cn⟩, cd, cc⟩ := ci.2.1
    have z9 := z.1.2.2
    have stop : τ 0 12 = 0 → (rI (m s 9)) ∧ ((m s 9 ≤ 0 → rSea s (cSea (n + 1) τ) σ 1 (kup m s 0 1)) ∧ (0 < m s 9 → (rI (m 3 2)) ∧ rSea s (cSea (n + 1) τ) σ 0 (xF m 2))) := fun q => by
      rw [e, kif_t q, z9]
      refine ⟨by constructor <;> omega, fun q2 => ?_, fun q2 => ⟨tRs_r2 h1 t.1, ?_⟩⟩
      · have E : tSf τ = τ := kif_f (by omega)
        have d0 : τ 0 22 = 0 := by omega
        rw [d0] at z
        unfold rSea
        rw [E]
        refine ⟨fun _ => ⟨rfl, kup_at, ?_⟩, fun x => absurd t.2 x, tRs_57 h1 (by omega), fun x hx => by rw [kup_o (by omega)]; exact fr x hx⟩
        obtain ⟨a, b, zz⟩ := z
        refine ⟨by rw [kup_j (by omega), kup_j (by omega), kup_j (by omega)]; exact a, fun i p q => by omega, fun k p q => ?_⟩
        have := zz k p q
        unfold zL1 lOk at *
        rw [kup_o (x := s + 1) (by omega), kup_o (x := s + 2) (by omega), kup_o (x := s + 3) (by omega), kup_o (x := s + 4) (by omega), kup_o (x := s + 5) (by omega)]
        exact this
      · have E : tSf τ = tF τ 2 := kif_t ⟨t.2, q2⟩
        have f := ((cG_fail t (k := 2) (by omega)).2.2.1 (fun z => z)).1
        unfold rSea
        rw [E]
        exact ⟨fun x => by have : tF τ 2 0 18 = 0 := x; have : 1 ≤ tF τ 2 0 18 := f.1; omega, fun _ => rfl, tRs_F h1 t, fun x hx => by rw [xF_B.1 x (by omega)]; exact fr x hx⟩
    refine S_X7_readAll_6 hs hc ⟨by constructor <;> omega, fun q => stop ?_, fun q => ⟨tRs_r2 h1 t.1, fun q2 => stop (by omega), fun q2 => ?_⟩⟩
    · have := t.1.2.2.2.2.1
      by_cases x : τ 0 12 = 0
      · exact x
      · have := this x; omega
    have ne : τ 0 12 ≠ 0 := by omega
    rw [kif_f ne] at e
    have PT := cSb_tk ci
    have pa := cStep_sb (τ := τ)
    have bad : ∀ m', zGo s (cSb τ) m 0 m' → rSea s (cSea (n + 1) τ) σ 0 (kup m' s 2 (m' s 2 + 1)) := by
      intro m' x
      obtain ⟨x1, x2, x3, x4⟩ := x
      have nn := no x1 rfl
      have f := PT.2 nn
      rw [cThen_f nn] at pa
      rw [kif_f (by rw [pa]; exact fun z => z), pa] at e
      rw [e]
      have E : tSf (cSb τ).2 = (cSb τ).2 := kif_f (by omega)
      show rSea s (cSb τ).2 σ 0 _
      unfold rSea
      rw [E]
      exact ⟨fun x => by omega, fun _ => rfl, x2, fun x hx => by rw [kup_o (by omega), x4 x hx, fr x hx]⟩
    have sign : ∀ (y : Int) (m' : Kmem), zGo s (cSb τ) m y m' → y ≠ 0 → Run G WX M_X6_takeSign 2 0 0 [vA G 3, vI 59] (kup m' s 2 (m' s 2 + 1)) (fun r13 s14 => (rI r13) ∧ ((r13 ≠ 0 → E_X7_readAll_6 G s c (l + 1) s14 (fun y t => rSea s (cSea (n + 1) τ) σ y t)) ∧ (r13 = 0 → rSea s (cSea (n + 1) τ) σ 0 s14))) := by
      intro y m' x q
      obtain ⟨x1, x2, x3, x4⟩ := x
      have yy := yes x1 q
      have t2 := PT.1 yy
      rw [cThen_t yy] at pa
      refine Run.mono (P_X6_takeSign x2 t2 ⟨by decide, by decide⟩) (fun r13 s14 y' => ?_)
      obtain ⟨y1, y2, y3⟩ := y'
      have fr1 : ∀ x, ¬ aS s x → s14 x = m x := fun x hx => by rw [y3.1 x (by omega), kup_o (by omega), x4 x hx]
      have fr2 : kfm (aS s) s14 σ := fun x hx => by rw [fr1 x hx, fr x hx]
      refine ⟨r01 y1, fun q2 => ?_, fun q2 => ?_⟩
      · have y4 := yes y1 q2
        have p1 : (cStep τ).1 := by rw [pa]; exact y4
        obtain ⟨c2, f2, c13⟩ := cStep_ok ci p1
        rw [kif_t p1] at e
        rw [e]
        have sg := (cSign_v y4).2
        have nv : vN (cStep τ).2 = vN (cSb τ).2 := by rw [pa]; exact nv_sign y4
        have n8 : (cStep τ).2 8 = (cSb τ).2 8 := by rw [pa, sg, tA_fr.1 8 (by omega)]
        have n23 : (cStep τ).2 0 23 = (cSb τ).2 0 23 := by rw [pa, sg, tA_fr.2 23 (by omega)]
        have n22 : (cStep τ).2 0 22 = (cSb τ).2 0 22 := by rw [pa, sg, tA_fr.2 22 (by omega)]
        have nn : (cStep τ).2 1 2064 = (cSb τ).2 1 2064 := by rw [pa, sg, tA_fr.1 1 (by omega)]
        have fc : c ≠ 3 ∧ 5 ≤ c := by rcases hc with e | e | e | e | e <;> subst e <;> decide
        have nz2 : nmZ s14 c (cStep τ).2 := by
          have k2 := ci.1.2.1
          have k3 := ci.1.2.2
          obtain ⟨⟨a1, a2⟩, b1, b2⟩ := nz
          have ec : ∀ x, c ≤ x → x < c + 26 → s14 x = m x := fun x a b => fr1 x (by omega)
          unfold nmZ
          rw [f2.2.2.1 2 (by omega), f2.2.2.1 3 (by omega), ec c (by omega) (by omega)]
          exact ⟨⟨a1, fun i p q => by rw [ec _ (by omega) (by omega), f2.2.2.2 _ (by omega)]; exact a2 i p q⟩, b1, fun i p q => by rw [ec _ (by omega) (by omega), f2.2.2.2 _ (by omega)]; exact b2 i p q⟩
        refine seaAll hs hc far n (l + 1) s14 (cStep τ).2 (by rw [pa]; exact y2) ?_ c2 nz2 (by omega) (by omega) (by rw [f2.2.1 11 (by omega)]; exact h11) fr2
        rw [nv, n8, n23, n22, nn]
        exact zP_sg hs (x3 yy) (fun x hx => y3.1 x hx)
      · have y4 := no y1 q2
        have p1 : ¬ (cStep τ).1 := by rw [pa]; exact y4
        have f := (cStep_no ci p1).1.1
        rw [kif_f p1] at e
        rw [e]
        have E : tSf (cStep τ).2 = (cStep τ).2 := kif_f (by omega)
        unfold rSea
        rw [E]
        exact ⟨fun z => by omega, fun _ => rfl, by rw [pa]; exact y2, fr2⟩
    have x22 := xW_t h1 t.1 (a := -32) (k := 22) ⟨22, by decide, rfl, rfl⟩
    refine ⟨⟨tRs_T0 h1 t.1, ⟨22, by decide, rfl⟩⟩, fun nw => ?_, fun yw => ?_⟩
    · refine Run.mono (zWord hs hc far h1 ci z nz (fun q => nw (x22.2 q))) (fun y m' x => ?_)
      refine ⟨x.1, fun q => bad m' (x.2.1 q), fun q => Run.mono (x.2.2 q) (fun r t' x => ⟨r01 x.1, fun q => ?_, fun q => sign r t' x q⟩)⟩
      subst q; exact bad t' x
    · refine Run.mono (zEnd hs h1 ci z (x22.1 yw)) (fun y m' x => ⟨r01 x.1, fun q => ?_, fun q => sign y m' x q⟩)
      subst q; exact bad m' x
