/-! CountyReader.readAll()Z -/
theorem cPa_tk {τ : Kmem} (c : cI τ) : ((cPa τ).1 → tk1 (cPa τ).2 ∧ (0 ≤ tWi τ ∧ tWi τ ≤ 6) ∧ (τ 0 20 / 2 ^ (tWi τ).toNat % 2 ≠ 1) ∧ (cPa τ).2 0 20 = kTo (τ 0 20) (tWi τ)) ∧ (¬ (cPa τ).1 → 1 ≤ (cPa τ).2 0 18 ∧ (cPa τ).2 0 18 ≤ 9) := by
  have h2 := cI_k2 c
  have fl : ∀ k, 1 ≤ k ∧ k ≤ 9 → 1 ≤ tF τ k 0 18 ∧ tF τ k 0 18 ≤ 9 := fun k hk => ((cG_fail h2.1 hk).2.2.1 (fun z => z)).1
  unfold cPa
  by_cases a : tWi τ < 0 ∨ 6 < tWi τ ∨ (tWi τ ≠ 0 ∧ τ 0 20 % 2 = 0)
  · rw [kif_t a]; exact ⟨fun z => z.elim, fun _ => fl 2 (by omega)⟩
  rw [kif_f a]
  by_cases b : τ 0 20 / 2 ^ (tWi τ).toNat % 2 = 1
  · rw [kif_t b]; exact ⟨fun z => z.elim, fun _ => fl 5 (by omega)⟩
  rw [kif_f b]
  have B := (cBody_G (k := tWi τ) (tk2_20 (y := kTo (τ 0 20) (tWi τ)) h2)).1
  exact ⟨fun y => ⟨B.2.1 y, by omega, b, by rw [fT0_20 B.1, kup_at]⟩, fun n => (B.2.2.1 n).1⟩
theorem kTo_2 {T k : Int} (hk : 0 ≤ k ∧ k ≤ 6) (hb : T / 2 ^ k.toNat % 2 ≠ 1) (h : T / 2 % 2 = 0) : kTo T k / 2 % 2 = 0 := by
  have q : k = 0 ∨ k = 1 ∨ k = 2 ∨ k = 3 ∨ k = 4 ∨ k = 5 ∨ k = 6 := by omega
  rcases q with q | q | q | q | q | q | q <;> subst q
  · have : T / 1 % 2 ≠ 1 := hb
    show (T + 1) / 2 % 2 = 0
    omega
  · exact h
  · show (T + 4) / 2 % 2 = 0; omega
  · show (T + 8) / 2 % 2 = 0; omega
  · exact h
  · exact h
  · exact h
/-- what comes of the reading -/
def rAll (u σ : Kmem) (y : Int) (s : Kmem) : Prop := (u 0 18 = 0 → y = 1 ∧ tY s (vN u) (u 2) (u 0 20)) ∧ (u 0 18 ≠ 0 → y = 0) ∧ tRs s u ∧ kfm aR s σ
theorem readAll_19 {G : Kg} {σ : Kmem} : ∀ (n : Nat) (l : Int) (s τ : Kmem), tRs s τ → tY s (vN τ) (τ 2) (τ 0 20) → cI τ → τ 0 20 / 2 % 2 = 0 → 901 - τ 0 13 < n → (0 ≤ l ∧ l ≤ τ 0 13) → kfm aR s σ → E_X1_readAll_19 G l s (fun y t => rAll (cCty n τ) σ y t)
  | 0, l, s, τ, _, _, c, _, h, _, _ => by
    have := c.1.1.2.1
    have := c.1.1.1.1
    omega
  | n + 1, l, s, τ, h1, hy, c, hT2, h, hl, fr => by
    have e : cCty (n + 1) τ = kif (τ 0 12 = 0) τ (kif (cPart τ).1 (cCty n (cPart τ).2) (cPart τ).2) := rfl
    have t := c.1
    have r := t.1.2.1
    have r11 := t.1.1.1
    have z := c.2.2.2
    have w := z.1
    have e2 := h1.2.1.1
    have kh := kco_h hy.1
    have stop : τ 0 12 = 0 → rAll (cCty (n + 1) τ) σ 1 s := fun q => by
      rw [e, kif_t q]
      exact ⟨fun _ => ⟨rfl, hy⟩, fun z => absurd t.2 z, h1, fr⟩
    refine S_X1_readAll_19 ⟨by constructor <;> omega, fun q => stop ?_, fun q => ⟨tRs_r2 h1 t.1, fun q2 => stop (by omega), fun q2 => ?_⟩⟩
    · have := t.1.2.2.2.2.1
      by_cases x : τ 0 12 = 0
      · exact x
      · have := this x; omega
    have ne : τ 0 12 ≠ 0 := by omega
    rw [kif_f ne] at e
    have PT := cPa_tk c
    have pa := cPart_pa (τ := τ)
    -- behind a piece: the sign
    have sign : ∀ (y : Int) (m : Kmem), xOk (cPa τ) s y m → (rI y) ∧ ((y = 0 → rAll (cCty (n + 1) τ) σ 0 m) ∧ (y ≠ 0 → Run G WX M_X6_takeSign 2 0 0 [vA G 3, vI 59] m (fun r13 s14 => (rI r13) ∧ ((r13 ≠ 0 → E_X1_readAll_19 G (l + 1) s14 (fun y t => rAll (cCty (n + 1) τ) σ y t)) ∧ (r13 = 0 → rAll (cCty (n + 1) τ) σ 0 s14))))) := by
      intro y m x
      obtain ⟨x1, x2, x3, x4⟩ := x
      refine ⟨r01 x1, fun q => ?_, fun q => ?_⟩
      · have nn := no x1 q
        have f := PT.2 nn
        rw [cThen_f nn] at pa
        rw [kif_f (by rw [pa]; exact fun z => z), pa] at e
        rw [e]
        exact ⟨fun z => absurd z (by show ¬ (cPa τ).2 0 18 = 0; omega), fun _ => rfl, x2, x4.trans fr⟩
      · have yy := yes x1 q
        obtain ⟨t2, hk, hb, h20⟩ := PT.1 yy
        rw [cThen_t yy] at pa
        refine Run.mono (P_X6_takeSign x2 t2 ⟨by decide, by decide⟩) (fun r13 s14 y' => ?_)
        obtain ⟨y1, y2, y3⟩ := y'
        have fr2 : kfm aR s14 σ := fun x hx => by rw [y3.1 x (by omega), x4 x hx, fr x hx]
        refine ⟨r01 y1, fun q2 => ?_, fun q2 => ?_⟩
        · have y4 := yes y1 q2
          have p1 : (cPart τ).1 := by rw [pa]; exact y4
          obtain ⟨c2, -, c13⟩ := cPart_ok c p1
          rw [kif_t p1] at e
          rw [e]
          have nv : vN (cPart τ).2 = vN (cPa τ).2 := by rw [pa]; exact nv_sign y4
          have n2 : (cPart τ).2 2 = (cPa τ).2 2 := by rw [pa, (cSign_v y4).2, tA_fr.1 2 (by omega)]
          have n20 : (cPart τ).2 0 20 = (cPa τ).2 0 20 := by rw [pa]; exact fT0_20 (cSign_G t2).1
          have w2 := c2.2.2.2.1
          refine readAll_19 n (l + 1) s14 (cPart τ).2 (by rw [pa]; exact y2) ?_ c2 ?_ (by omega) (by omega) fr2
          · rw [nv, n2, n20]
            rw [nv] at w2
            exact tY_j57 w2 (x3 yy) (kS_57 y3) ⟨by rw [y3.1 57 (by omega)], by rw [y3.1 57 (by omega)]⟩
          · rw [n20, h20]; exact kTo_2 hk hb hT2
        · have y4 := no y1 q2
          have p1 : ¬ (cPart τ).1 := by rw [pa]; exact y4
          have f := (cPart_no c p1).1.1
          rw [kif_f p1] at e
          rw [e]
          exact ⟨fun z => by omega, fun _ => rfl, by rw [pa]; exact y2, fr2⟩
    refine Run.mono (P_X0_hasLand (c := 31) (Or.inr (Or.inl rfl)) ⟨w, hy.1⟩) (fun r7 s8 x => ?_)
    obtain ⟨x1, x2⟩ := x
    subst x2
    have w1 := wf_h w
    refine ⟨r01 x1, fun q => ?_, fun q => ?_⟩
    · have v0 := no x1 q
      have T0 : τ 0 20 % 2 = 0 := Classical.byContradiction (fun x => by have := z.2.1.2 x; omega)
      have E : cPa τ = kif (tWi τ = 0) (cLand (kup τ 0 20 (τ 0 20 + 1))) (False, tF τ 2) := by
        by_cases a : tWi τ = 0
        · rw [kif_t a, (cPa_is a (by omega) (Or.inl rfl)).2 (by show τ 0 20 / 1 % 2 ≠ 1; omega)]; rfl
        · rw [kif_f a]; exact kif_t (by omega)
      refine Run.mono (P_X1_readLand h1 rfl hy t z ⟨c.2.2.1, T0⟩) (fun r10 s11 y => ?_)
      rw [← E] at y
      exact sign r10 s11 y
    · have v0 := yes x1 q
      have T1 : τ 0 20 % 2 ≠ 0 := fun x => by have := (z.2.1.1 x).1; omega
      exact Run.mono (P_X1_readPart h1 hy c T1 hT2) (fun r16 s17 y => sign r16 s17 y)
theorem P_X1_readAll {G : Kg} {σ τ : Kmem} (h : tRs σ τ) (t : tk1 τ) (nm : nmR τ) : Run G WX M_X1_readAll 9 0 0 [vA G 57] σ (fun y s => rAll (cCty 902 (tC0 τ)) σ y s) := by
  have c := tC0_I t nm
  have c13 := c.1.1.2.1
  refine S_X1_readAll (Run.mono (P_X0_clear (c := 31) (Or.inr (Or.inl rfl))) (fun r s e => ?_))
  obtain ⟨-, e1, e2⟩ := e
  have T20 : (tC0 τ) 0 20 = 0 := kup_at
  have fr : ∀ x, x ≠ 31 → x ≠ 32 → x ≠ 33 → x ≠ 57 → (kup (kup s 57 2 0) 57 3 0) x = σ x := fun x a b c d => by rw [kup_o d, kup_o d, e1 x (by omega)]
  have z := c.2.2.2
  have vv : ∀ j, 0 ≤ j → j < 150 → vN (tC0 τ) j = plV j := fun j a b => by
    unfold tC0; rw [nv_20]; exact nv_pl ⟨a, by omega⟩
  refine readAll_19 902 0 _ (tC0 τ) ?_ ⟨?_, ⟨fun k a b => ?_, fun k a b => ?_, fun k a b => ?_⟩, ?_, ?_⟩ c (by rw [T20]; decide) (by omega) ⟨by omega, c13.1⟩ (fun x hx => fr x (by omega) (by omega) (by omega) (by omega))
  · have : tRs σ (tC0 τ) := by
      refine tRs_20 ?_
      have f1 : (tPl τ 2056) 0 = τ 0 := kst_ne (by omega)
      have f7 : (tPl τ 2056) 7 = τ 7 := kst_ne (by omega)
      have b : bA (tPl τ 2056) = bA τ := by funext i; unfold bA; rw [f1, f7]
      unfold tRs tRt at *
      rw [f1, f7, b]; exact h
    unfold tRs tRt at *
    rw [fr 3 (by omega) (by omega) (by omega) (by omega), fr 4 (by omega) (by omega) (by omega) (by omega)]; exact this
  · refine kco_ext plV_cz.1 vv (kco_kfm (A := fun x => x = 57) plV_cz.1 e2 (fun x hx => by rw [kup_o hx, kup_o hx]) (fun x a b => by omega))
  · have : vN (tC0 τ) 2 = 0 := vv 2 (by omega) (by omega)
    omega
  · have : vN (tC0 τ) 3 = 0 := vv 3 (by omega) (by omega)
    omega
  · have : vN (tC0 τ) 4 = 0 := vv 4 (by omega) (by omega)
    omega
  · rw [T20, kup_j (by omega), kup_at]; decide
  · rw [T20, kup_at]; decide
