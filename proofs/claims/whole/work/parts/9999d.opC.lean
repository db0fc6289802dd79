theorem O_busiest {G G' : Kg} {σ τ : Kmem} (h : R σ τ) : Op G G' M_X11_busiest M_X12_busiest 4 8 [vA G 0] [vA G' 0] σ τ := by
  obtain ⟨w, k⟩ := R_w h
  have w1 := wf_h w
  refine Op_fb (f := sHad (τ 1)) (P := fun _ => 0 < τ 1 0) (n := 12) h (S_X11_busiest (v := τ 1) ⟨⟨w, k⟩, fun y => ?_, fun n => ⟨⟨fun _ k a b => n, fun q => absurd rfl q⟩, by rw [kif_t rfl]; exact fX.refl⟩⟩) (S_X12_busiest ?_)
  · generalize hQ : (fun (r : Int) (s : Kmem) => fb (sHad (τ 1)) (fun _ => 0 < τ 1 0) 12 r ∧ fX s (kup σ 0 0 (kif (r = -1) 6 0))) = Q
    refine kloopP (E := fun i (z : Int × Int × Kmem) => E_X11_busiest_23 G z.1 z.2.1 i z.2.2 Q) (fun i z => fX z.2.2 σ ∧ ((i = 0 ∧ z.1 = 0 ∧ z.2.1 = -1) ∨ (fb (sHad (τ 1)) (fun _ => 0 < τ 1 0) i z.1 ∧ z.1 ≠ -1 ∧ z.2.1 = sHad (τ 1) z.1))) 12 (fun i z hi hI ih => S_X11_busiest_23 ⟨by omega, fun q => ?_, fun q => ?_⟩) (τ := (0, -1, σ)) ⟨fX.refl, Or.inl ⟨rfl, rfl, rfl⟩⟩
    · have e : i = 12 := by omega
      subst e
      obtain ⟨i1, i2⟩ := hI
      rcases i2 with i2 | i2
      · exact absurd i2.1 (by decide)
      · rw [← hQ]; exact ⟨i2.1, by rw [kif_f i2.2.1]; exact fX_st i1⟩
    · obtain ⟨i1, i2⟩ := hI
      refine Run.mono (P_X8_look (v := τ 1) (h := i) isC_5 ⟨w, fX_co i1 w k, by constructor <;> omega⟩) (fun r s e => ?_)
      obtain ⟨-, e1, e2, e3, e4⟩ := e
      refine Run.mono (P_X8_ownedFields (v := τ 1) (h := i) ⟨w, e4⟩) (fun r2 s2 f => ?_)
      obtain ⟨f1, f2⟩ := f
      subst f2
      have er := sEst_r (v := τ 1) (k := -1) (h := i) w
      have hr : 0 ≤ sHad (τ 1) i ∧ sHad (τ 1) i ≤ 63 := kcnt_r w
      have fr : fX s2 σ := (fX_sky e1).trans i1
      have zr : -1 ≤ z.2.1 ∧ z.2.1 ≤ 63 := by
        rcases i2 with i2 | i2
        · omega
        · rw [i2.2.2]
          have : 0 ≤ sHad (τ 1) z.1 ∧ sHad (τ 1) z.1 ≤ 63 := kcnt_r w
          omega
      rw [f1]
      refine ⟨by constructor <;> omega, by constructor <;> omega, fun g => ih (by omega) (z.1, z.2.1, s2) ⟨fr, ?_⟩, fun g => ih (by omega) (i, sHad (τ 1) i, s2) ⟨fr, Or.inr ⟨?_, by show (i : Int) ≠ -1; omega, rfl⟩⟩⟩
      · rcases i2 with i2 | i2
        · omega
        · exact Or.inr ⟨fb_no i2.1 (fun _ => ⟨i2.2.1, by rw [← i2.2.2]; exact g⟩), i2.2⟩
      · rcases i2 with i2 | i2
        · obtain ⟨z0, -⟩ := i2
          subst z0
          exact fb_yes fb_0 y (Int.le_refl 0) (fun n => absurd rfl n)
        · exact fb_yes i2.1 y (by omega) (fun _ => by rw [← i2.2.2]; exact g)
  · generalize hQ : (fun (r : Int) (t : Kmem) => fb (sHad (τ 1)) (fun _ => 0 < τ 1 0) 12 r ∧ fM t (kup τ 0 2 (kif (r = -1) 6 0))) = Q
    have m0 : τ 1 0 * τ 1 1 ≤ 9 * 7 := Int.mul_le_mul (by omega) (by omega) (by omega) (by omega)
    have m1 : 0 ≤ τ 1 0 * τ 1 1 := Int.mul_nonneg (by omega) (by omega)
    have m2 : 0 < τ 1 0 * τ 1 1 → 0 < τ 1 0 := fun q => by
      by_cases e : τ 1 0 = 0
      · rw [e] at q; omega
      · omega
    have m3 : 0 < τ 1 0 → 0 < τ 1 0 * τ 1 1 := fun q => Int.mul_pos q (by omega)
    refine kloopP (E := fun i (z : Int) => E_X12_busiest_4 G' z i τ Q) (fun i z => fb (sHad (τ 1)) (fun _ => 0 < τ 1 0) i z) 12 (fun i z hi hI ih => S_X12_busiest_4 ⟨by omega, fun q => ?_, fun q => ⟨by omega, fun q2 => ?_, fun q2 => ?_⟩⟩) fb_0
    · have := fb_r hI
      rw [← hQ]; exact ⟨by omega, by rw [show (12 : Int) = i by omega]; exact hI, fM.refl⟩
    · have := fb_r hI
      rw [← hQ]
      have n0 : ¬ 0 < τ 1 0 := fun y => by have := m3 y; omega
      have : z = -1 := Classical.byContradiction (fun n => n0 (hI.2 n).1.2.2)
      exact ⟨by omega, ⟨fun _ k a b => n0, fun n => absurd this n⟩, fM.refl⟩
    · have := fb_r hI
      have y := m2 q2
      have e1 := sHad_est (v := τ 1) (h := i) w
      have e2 := sHad_est (v := τ 1) (h := z) w
      have er1 := sEst_r (v := τ 1) (k := -1) (h := i) w
      have er2 := sEst_r (v := τ 1) (k := -1) (h := z) w
      refine ⟨by omega, fun ez => ih (by omega) _ (fb_yes hI y (by omega) (fun n => absurd ez n)), fun nz => ⟨⟨w, by decide, by omega⟩, ⟨w, by decide, by omega⟩, by constructor <;> omega, by constructor <;> omega, fun g => ih (by omega) _ (fb_no hI (fun _ => ⟨nz, by omega⟩)), fun g => ih (by omega) _ (fb_yes hI y (by omega) (fun _ => by omega))⟩⟩
theorem O_greatest {G G' : Kg} {σ τ : Kmem} (h : R σ τ) : Op G G' M_X11_greatest M_X12_greatest 5 8 [vA G 0] [vA G' 0] σ τ := by
  obtain ⟨w, k⟩ := R_w h
  have w1 := wf_h w
  have hr : sHr (τ 1 7 % 12) := by constructor <;> omega
  refine Op_fb (f := fun k => sEst (τ 1) k (τ 1 7 % 12)) (P := fun k => 0 < sEst (τ 1) k (τ 1 7 % 12)) (n := τ 1 2) h (S_X11_greatest ?_) (S_X12_greatest ?_)
  · refine Run.mono (P_X11_lookNow (v := τ 1) ⟨w, k⟩) (fun r s e => ?_)
    obtain ⟨-, e1, e2, e3, e4⟩ := e
    have fr := fX_sky e1
    have k5 := (kco_h e2).2.2.1
    generalize hQ : (fun (r : Int) (s : Kmem) => fb (fun k => sEst (τ 1) k (τ 1 7 % 12)) (fun k => 0 < sEst (τ 1) k (τ 1 7 % 12)) (τ 1 2) r ∧ fX s (kup σ 0 0 (kif (r = -1) 6 0))) = Q
    refine kloopP (E := fun i (z : Int × Int) => E_X11_greatest_10 G z.1 z.2 i s Q) (fun i z => fb (fun k => sEst (τ 1) k (τ 1 7 % 12)) (fun k => 0 < sEst (τ 1) k (τ 1 7 % 12)) i z.1 ∧ (z.1 = -1 → z.2 = 0) ∧ (z.1 ≠ -1 → z.2 = sEst (τ 1) z.1 (τ 1 7 % 12))) (τ 1 2).toNat (fun i z hi hI ih => S_X11_greatest_10 ⟨by omega, by omega, fun q => ?_, fun q => ?_⟩) (τ := (-1, 0)) ⟨fb_0, fun _ => rfl, fun n => absurd rfl n⟩
    · obtain ⟨i1, i2, i3⟩ := hI
      have := fb_r i1
      rw [show (i : Int) = τ 1 2 by omega] at i1
      rw [← hQ]
      exact ⟨by omega, fun n => ⟨i1, by rw [kif_f n]; exact fX_st fr⟩, fun e => by rw [e] at i1; exact ⟨i1, by rw [kif_t rfl]; exact fX_st fr⟩⟩
    · obtain ⟨i1, i2, i3⟩ := hI
      have := fb_r i1
      have er1 := sEst_r (v := τ 1) (k := i) (h := τ 1 7 % 12) w
      have er2 := sEst_r (v := τ 1) (k := z.1) (h := τ 1 7 % 12) w
      refine Run.mono (P_X8_fieldsOf (v := τ 1) (h := τ 1 7 % 12) ⟨⟨w, e4⟩, by constructor <;> omega⟩) (fun r2 s2 f => ?_)
      obtain ⟨f1, f2⟩ := f
      subst f2
      have zr : 0 ≤ z.2 ∧ z.2 ≤ 63 := by
        by_cases e : z.1 = -1
        · rw [i2 e]; omega
        · rw [i3 e]; omega
      rw [f1]
      refine ⟨by constructor <;> omega, by constructor <;> omega, fun g => ih (by omega) z ⟨fb_no i1 (fun p => ?_), i2, i3⟩, fun g => ih (by omega) (i, sEst (τ 1) i (τ 1 7 % 12)) ⟨fb_yes i1 (by show 0 < sEst (τ 1) i (τ 1 7 % 12); omega) (by omega) (fun n => ?_), fun e => by have : (i : Int) = -1 := e; omega, fun _ => rfl⟩⟩
      · have p : 0 < sEst (τ 1) i (τ 1 7 % 12) := p
        by_cases e : z.1 = -1
        · have := i2 e; omega
        · exact ⟨e, by show sEst (τ 1) i (τ 1 7 % 12) ≤ sEst (τ 1) z.1 (τ 1 7 % 12); rw [← i3 e]; exact g⟩
      · show sEst (τ 1) z.1 (τ 1 7 % 12) < sEst (τ 1) i (τ 1 7 % 12)
        rw [← i3 n]; exact g
  · generalize hQ : (fun (r : Int) (t : Kmem) => fb (fun k => sEst (τ 1) k (τ 1 7 % 12)) (fun k => 0 < sEst (τ 1) k (τ 1 7 % 12)) (τ 1 2) r ∧ fM t (kup τ 0 2 (kif (r = -1) 6 0))) = Q
    refine kloopP (E := fun i (z : Int) => E_X12_greatest_4 G' z i τ Q) (fun i z => fb (fun k => sEst (τ 1) k (τ 1 7 % 12)) (fun k => 0 < sEst (τ 1) k (τ 1 7 % 12)) i z) (τ 1 2).toNat (fun i z hi hI ih => S_X12_greatest_4 ⟨by omega, by omega, fun q => ?_, fun q => ?_⟩) fb_0
    · have := fb_r hI
      rw [← hQ]; exact ⟨by omega, by rw [show τ 1 2 = i by omega]; exact hI, fM.refl⟩
    · have := fb_r hI
      have er1 := sEst_r (v := τ 1) (k := i) (h := τ 1 7 % 12) w
      have er2 := sEst_r (v := τ 1) (k := z) (h := τ 1 7 % 12) w
      refine ⟨by omega, ⟨w, by omega, hr⟩, by omega, fun nz => ⟨by omega, ⟨w, by omega, hr⟩, by constructor <;> omega, by constructor <;> omega, fun g => ih (by omega) _ (fb_no hI (fun _ => ⟨nz, g⟩)), fun g => ih (by omega) _ (fb_yes hI ?_ (by omega) (fun _ => g))⟩, fun ez => ⟨by constructor <;> omega, fun g => ih (by omega) _ (fb_no hI (fun p => ?_)), fun g => ih (by omega) _ (fb_yes hI g (by omega) (fun n => absurd ez n))⟩⟩
      · show 0 < sEst (τ 1) i (τ 1 7 % 12); omega
      · have p : 0 < sEst (τ 1) i (τ 1 7 % 12) := p
        omega
/-! what a kite alone shades -/
theorem own_none {v : Int → Int} {p : Int → Prop} (w : wf v) : sOwnBy v (kset p (v 2).toNat : Int) = -1 ↔ ((v 6 = 2 ∧ kbits (kset p (v 2).toNat) ≠ 1) ∨ kset p (v 2).toNat = 0) := by
  unfold sOwnBy
  rw [Int.toNat_natCast]
  by_cases q : v 6 = 2 ∧ kbits (kset p (v 2).toNat) ≠ 1
  · rw [kif_t q]; exact ⟨fun _ => Or.inl q, fun _ => rfl⟩
  · rw [kif_f q]
    refine (sBest_none _).trans ⟨fun h => Or.inr (kset_none (fun k hk y => h k hk (sIn_kset.2 ⟨hk, y⟩))), fun h k hk y => ?_⟩
    rcases h with h | h
    · exact q h
    · rw [h, sIn_nat] at y; simp at y
theorem lost_f1 : ∀ a : Nat, a < 64 → ∀ k : Nat, k < 6 → (kbits a == 1 && a != 0 && (kbits (a &&& (63 - 2 ^ k)) != 1 || a &&& (63 - 2 ^ k) == 0)) = true → a = 2 ^ k := by decide +kernel
theorem lost_f2 : ∀ a : Nat, a < 64 → ∀ k : Nat, k < 6 → a ≠ 0 → a &&& (63 - 2 ^ k) = 0 → a = 2 ^ k := by decide +kernel
theorem lost_f3 : ∀ k : Nat, k < 6 → kbits (2 ^ k) = 1 ∧ 2 ^ k ≠ 0 ∧ 2 ^ k &&& (63 - 2 ^ k) = 0 := by decide +kernel
theorem msk_fin : ∀ k : Nat, k < 6 → ∀ j : Nat, j < 6 → (63 - 2 ^ k).testBit j = (j != k) := by decide +kernel
theorem sSh1_and {v : Int → Int} {c r h : Int} {k : Nat} (w : wf v) (hk : (k : Int) < v 2) : sSh1 v c r h k = sShs v c r h &&& (63 - 2 ^ k) := by
  have w1 := wf_h w
  apply Nat.eq_of_testBit_eq
  intro j
  unfold sSh1 sShs
  rw [Nat.testBit_and, Bool.eq_iff_iff, Bool.and_eq_true, kset_bit, kset_bit]
  by_cases hj : j < 6
  · rw [msk_fin k (by omega) j hj, bne_iff_ne]
    constructor
    · rintro ⟨a, b, d⟩; exact ⟨⟨a, b⟩, fun e => d (by rw [e])⟩
    · rintro ⟨⟨a, b⟩, d⟩; exact ⟨a, b, fun e => d (by omega)⟩
  · constructor
    · rintro ⟨a, -⟩; omega
    · rintro ⟨⟨a, -⟩, -⟩; omega
theorem lost_iff {v : Int → Int} {c r h : Int} {k : Nat} (w : wf v) (hk : (k : Int) < v 2) : (sOwn v c r h ≠ -1 ∧ sOwnBy v (sSh1 v c r h k : Int) = -1) ↔ (sShs v c r h : Int) = kshl 1 k := by
  have w1 := wf_h w
  have a64 := sShs_r (v := v) (c := c) (r := r) (h := h) w
  have e := sSh1_and (c := c) (r := r) (h := h) w hk
  have n1 : sOwn v c r h = -1 ↔ _ := own_none (p := sUS v c r h) w
  have n2 : sOwnBy v (sSh1 v c r h k : Int) = -1 ↔ _ := own_none (p := fun x => sUS v c r h x ∧ x ≠ k) w
  have f1 : kset (sUS v c r h) (v 2).toNat = sShs v c r h := rfl
  have f2 : kset (fun x => sUS v c r h x ∧ x ≠ k) (v 2).toNat = sSh1 v c r h k := rfl
  rw [f1] at n1
  rw [f2, e] at n2
  rw [(kshl1 (i := k) (by omega)).1, ne_eq, n1, e, n2]
  generalize sShs v c r h = a at *
  constructor
  · rintro ⟨x, y⟩
    have a0 : a ≠ 0 := fun z => x (Or.inr z)
    have : a = 2 ^ k := by
      by_cases l2 : v 6 = 2
      · have b1 : kbits a = 1 := Classical.byContradiction fun z => x (Or.inl ⟨l2, z⟩)
        refine lost_f1 a (by omega) k (by omega) ?_
        simp only [Bool.and_eq_true, Bool.or_eq_true, beq_iff_eq, bne_iff_ne]
        refine ⟨⟨b1, a0⟩, ?_⟩
        rcases y with y | y
        · exact Or.inl y.2
        · exact Or.inr y
      · refine lost_f2 a (by omega) k (by omega) a0 ?_
        rcases y with y | y
        · exact absurd y.1 l2
        · exact y
    omega
  · intro x
    have x' : a = 2 ^ k := by omega
    subst x'
    obtain ⟨f1, f2, f3⟩ := lost_f3 k (by omega)
    refine ⟨fun z => ?_, Or.inr f3⟩
    rcases z with z | z
    · exact z.2 f1
    · exact f2 z
theorem P_X8_shadedAloneBy {G : Kg} {σ : Kmem} {k : Nat} {v : Int → Int} (p : (wf v ∧ skD σ v (sCt v) (v 7 % 12)) ∧ (k : Int) < v 2) : Run G WX M_X8_shadedAloneBy 0 0 0 [vA G 58, vI k] σ (fun x s => x = sLost v k ∧ s = σ) := by
  obtain ⟨⟨w, d⟩, hk⟩ := p
  have w1 := wf_h w
  have ks := kshl1 (i := k) (by omega)
  have e : kfor (fun f n => n + kb (σ 62 f = kshl 1 (k : Int))) 63 0 = sLost v k := by
    rw [sLost, ← kcnt_land (v := v) (p := fun c r => σ 62 (r * 9 + c) = kshl 1 (k : Int)) w (fun c r a b c' d' => ?_)]
    · congr 1; funext f n; rw [show f / 9 * 9 + f % 9 = f by omega]
    · have := skD_all (c := c) (r := r) w d ⟨a, b⟩ ⟨c', d'⟩
      by_cases z : sFld v c r
      · rw [(this.1 z).1]; exact ⟨fun y => ⟨z, (lost_iff w hk).2 y⟩, fun y => (lost_iff w hk).1 y.2⟩
      · rw [(this.2 z).1, ks.1]
        have := Nat.two_pow_pos k
        exact ⟨fun y => by omega, fun y => absurd y.1 z⟩
  refine S_X8_shadedAloneBy ?_
  refine kloopC (E := fun i n => E_X8_shadedAloneBy_4 G k n i σ (fun x s => x = sLost v k ∧ s = σ)) (p := fun f => σ 62 f = kshl 1 (k : Int)) (N := 63) (a0 := 0) (fun i n hi hn he h1 h0 h00 => S_X8_shadedAloneBy_4 ?_)
  refine ⟨by omega, fun q => ⟨by rw [he (by omega), e], rfl⟩, fun q => ⟨by omega, ?_, ?_, fun z => h00 (by omega) z, fun z => h1 (by omega) z⟩⟩
  all_goals
    have dd := (d i (by omega) (by omega)).1
    have := sSetI_r (v := v) (q := sCt v) (h := v 7 % 12) (f := i) (i := (v 2).toNat) (by omega)
    have k1 := ks.1
    have k2 := ks.2
    first
      | (rw [k1]; clear d e h1 h0 h00 he k1 ks; generalize 2 ^ k = z at *; exact ⟨by omega, by omega⟩)
      | (rw [dd]; exact ⟨by omega, by omega⟩)
theorem sLost_r {v : Int → Int} {k : Int} (w : wf v) : 0 ≤ sLost v k ∧ sLost v k ≤ 63 := kcnt_r w
theorem O_needed {G G' : Kg} {σ τ : Kmem} (h : R σ τ) : Op G G' M_X11_needed M_X12_needed 5 7 [vA G 0] [vA G' 0] σ τ := by
  obtain ⟨w, k⟩ := R_w h
  have w1 := wf_h w
  have hr : sHr (τ 1 7 % 12) := by constructor <;> omega
  refine Op_fb (f := sLost (τ 1)) (P := fun k => sUp (τ 1) k (τ 1 7 % 12)) (n := τ 1 2) h (S_X11_needed ?_) (S_X12_needed ?_)
  · refine Run.mono (P_X11_lookNow (v := τ 1) ⟨w, k⟩) (fun r s e => ?_)
    obtain ⟨-, e1, e2, e3, e4⟩ := e
    have fr := fX_sky e1
    have k5 := (kco_h e2).2.2.1
    generalize hQ : (fun (r : Int) (s : Kmem) => fb (sLost (τ 1)) (fun k => sUp (τ 1) k (τ 1 7 % 12)) (τ 1 2) r ∧ fX s (kup σ 0 0 (kif (r = -1) 6 0))) = Q
    refine kloopP (E := fun i (z : Int × Int) => E_X11_needed_10 G z.1 z.2 i s Q) (fun i z => fb (sLost (τ 1)) (fun k => sUp (τ 1) k (τ 1 7 % 12)) i z.1 ∧ (z.1 = -1 → z.2 = -1) ∧ (z.1 ≠ -1 → z.2 = sLost (τ 1) z.1)) (τ 1 2).toNat (fun i z hi hI ih => S_X11_needed_10 ⟨by omega, by omega, fun q => ?_, fun q => ?_⟩) (τ := (-1, -1)) ⟨fb_0, fun _ => rfl, fun n => absurd rfl n⟩
    · obtain ⟨i1, i2, i3⟩ := hI
      have := fb_r i1
      rw [show (i : Int) = τ 1 2 by omega] at i1
      rw [← hQ]
      exact ⟨by omega, fun n => ⟨i1, by rw [kif_f n]; exact fX_st fr⟩, fun e => by rw [e] at i1; exact ⟨i1, by rw [kif_t rfl]; exact fX_st fr⟩⟩
    · obtain ⟨i1, i2, i3⟩ := hI
      have := fb_r i1
      have er1 := sLost_r (v := τ 1) (k := i) w
      have er2 := sLost_r (v := τ 1) (k := z.1) w
      have zr : -1 ≤ z.2 ∧ z.2 ≤ 63 := by
        by_cases e : z.1 = -1
        · rw [i2 e]; omega
        · rw [i3 e]; omega
      have up : (sBorne (τ 1) i (τ 1 7 % 12) ∧ ¬ sCt (τ 1) i) ↔ sUp (τ 1) i (τ 1 7 % 12) := ⟨fun q => ⟨q.2, q.1⟩, fun q => ⟨q.2, q.1⟩⟩
      refine Run.mono (P_X8_isUp (p := fun k => sBorne (τ 1) k (τ 1 7 % 12) ∧ ¬ sCt (τ 1) k) (n := (τ 1 2).toNat) ⟨by omega, by omega, e3.2.1⟩) (fun r2 s2 f => ?_)
      obtain ⟨f1, f2⟩ := f
      subst f2
      refine ⟨by rw [f1]; exact kb_r _, fun z0 => ih (by omega) z ⟨fb_no i1 (fun p => absurd (up.2 p) (kb_f (by rw [← f1]; exact z0))), i2, i3⟩, fun z1 => ?_⟩
      have p := up.1 (kb_t (by rw [← f1]; exact z1))
      refine Run.mono (P_X8_shadedAloneBy (v := τ 1) (k := i) ⟨⟨w, e4⟩, by omega⟩) (fun r3 s3 f => ?_)
      obtain ⟨f3, f4⟩ := f
      subst f4
      rw [f3]
      refine ⟨by constructor <;> omega, by constructor <;> omega, fun g => ih (by omega) z ⟨fb_no i1 (fun _ => ?_), i2, i3⟩, fun g => ih (by omega) (i, sLost (τ 1) i) ⟨fb_yes i1 p (by omega) (fun n => by rw [← i3 n]; exact g), fun e => by have : (i : Int) = -1 := e; omega, fun _ => rfl⟩⟩
      by_cases e : z.1 = -1
      · have := i2 e; omega
      · exact ⟨e, by rw [← i3 e]; exact g⟩
  · generalize hQ : (fun (r : Int) (t : Kmem) => fb (sLost (τ 1)) (fun k => sUp (τ 1) k (τ 1 7 % 12)) (τ 1 2) r ∧ fM t (kup τ 0 2 (kif (r = -1) 6 0))) = Q
    refine kloopP (E := fun i (z : Int) => E_X12_needed_4 G' z i τ Q) (fun i z => fb (sLost (τ 1)) (fun k => sUp (τ 1) k (τ 1 7 % 12)) i z) (τ 1 2).toNat (fun i z hi hI ih => S_X12_needed_4 ⟨by omega, by omega, fun q => ?_, fun q => ?_⟩) fb_0
    · have := fb_r hI
      rw [← hQ]; exact ⟨by omega, by rw [show τ 1 2 = i by omega]; exact hI, fM.refl⟩
    · have := fb_r hI
      have er1 := sLost_r (v := τ 1) (k := i) w
      have er2 := sLost_r (v := τ 1) (k := z) w
      refine ⟨by omega, ⟨w, by omega, hr⟩, fun n => ih (by omega) _ (fb_no hI (fun p => absurd p n)), fun p => ⟨by omega, fun ez => ih (by omega) _ (fb_yes hI p (by omega) (fun n => absurd ez n)), fun nz => ⟨⟨w, by omega⟩, ⟨w, by omega⟩, by constructor <;> omega, by constructor <;> omega, fun g => ih (by omega) _ (fb_no hI (fun _ => ⟨nz, g⟩)), fun g => ih (by omega) _ (fb_yes hI p (by omega) (fun _ => g))⟩⟩⟩
theorem sStrips_r {v : Int → Int} {r : Int} {n : Nat} : 0 ≤ sStrips v r n ∧ sStrips v r n ≤ (n : Int) := by
  have := kcol_r (p := fun k => ∀ o : Nat, (o : Int) < k → ¬ sAlike v k o r (v 0).toNat) (n := 0) n
  unfold sStrips
  omega
theorem O_telling {G G' : Kg} {σ τ : Kmem} (h : R σ τ) : Op G G' M_X11_telling M_X12_telling 6 7 [vA G 0] [vA G' 0] σ τ := by
  obtain ⟨w, k⟩ := R_w h
  have w1 := wf_h w
  refine Op_fb (f := fun r => sStrips (τ 1) r (τ 1 2).toNat) (P := fun _ => True) (n := τ 1 1) h (S_X11_telling (v := τ 1) ⟨⟨w, k⟩, fun y => ?_, fun n => ⟨⟨fun _ k a b => by omega, fun q => absurd rfl q⟩, by rw [kif_t rfl]; exact fX.refl⟩⟩) (S_X12_telling ?_)
  · refine Run.mono (P_X0_copy (v := τ 1) isC_31 isC_5 ⟨by decide, w, k⟩) (fun r s e => ?_)
    obtain ⟨-, e1, e2, -⟩ := e
    have fr0 : fX s σ := fX_of e1 (fun x q => by unfold scX; have := q.1; have := q.2; omega)
    generalize hQ : (fun (r : Int) (s : Kmem) => fb (fun r => sStrips (τ 1) r (τ 1 2).toNat) (fun _ => True) (τ 1 1) r ∧ fX s (kup σ 0 0 (kif (r = -1) 6 0))) = Q
    refine kloopP (E := fun i (z : Int × Int × Kmem) => E_X11_telling_34 G z.1 z.2.1 i z.2.2 Q) (fun i z => (fX z.2.2 σ ∧ kco z.2.2 31 (τ 1)) ∧ ((i = 0 ∧ z.1 = 0 ∧ z.2.1 = -1) ∨ (fb (fun r => sStrips (τ 1) r (τ 1 2).toNat) (fun _ => True) i z.1 ∧ z.1 ≠ -1 ∧ z.2.1 = sStrips (τ 1) z.1 (τ 1 2).toNat))) (τ 1 1).toNat (fun i z hi hI ih => S_X11_telling_34 ?_) (τ := (0, -1, s)) ⟨⟨fr0, e2⟩, Or.inl ⟨rfl, rfl, rfl⟩⟩
    obtain ⟨⟨i0, i1⟩, i2⟩ := hI
    have k5 := (kco_h (fX_co i0 w k)).1.2.1
    refine ⟨by omega, by omega, fun q => ?_, fun q => ?_⟩
    · rcases i2 with i2 | i2
      · omega
      · rw [← hQ]; exact ⟨by rw [show τ 1 1 = i by omega]; exact i2.1, by rw [kif_f i2.2.1]; exact fX_st i0⟩
    · refine Run.mono (P_X5_unlikeStrips (v := τ 1) ⟨⟨w, i1⟩, by omega, by omega⟩) (fun r2 s2 f => ?_)
      obtain ⟨f1, f2, -⟩ := f
      have fr : fX s2 σ := (fX_of f2 (fun x q => by unfold scX; omega)).trans i0
      have kk : kco s2 31 (τ 1) := kco_kfm w i1 f2 (fun x a b q => by omega)
      have er1 := sStrips_r (v := τ 1) (r := i) (n := (τ 1 2).toNat)
      have zr : -1 ≤ z.2.1 ∧ z.2.1 ≤ (τ 1 2).toNat := by
        rcases i2 with i2 | i2
        · omega
        · rw [i2.2.2]
          have := sStrips_r (v := τ 1) (r := z.1) (n := (τ 1 2).toNat)
          omega
      rw [f1]
      refine ⟨by constructor <;> omega, by constructor <;> omega, fun g => ih (by omega) (z.1, z.2.1, s2) ⟨⟨fr, kk⟩, ?_⟩, fun g => ih (by omega) (i, sStrips (τ 1) i (τ 1 2).toNat, s2) ⟨⟨fr, kk⟩, Or.inr ⟨?_, by show (i : Int) ≠ -1; omega, rfl⟩⟩⟩
      · rcases i2 with i2 | i2
        · omega
        · exact Or.inr ⟨fb_no i2.1 (fun _ => ⟨i2.2.1, by rw [← i2.2.2]; exact g⟩), i2.2⟩
      · rcases i2 with i2 | i2
        · obtain ⟨z0, -⟩ := i2
          subst z0
          exact fb_yes fb_0 trivial (Int.le_refl 0) (fun n => absurd rfl n)
        · exact fb_yes i2.1 trivial (by omega) (fun _ => by rw [← i2.2.2]; exact g)
  · generalize hQ : (fun (r : Int) (t : Kmem) => fb (fun r => sStrips (τ 1) r (τ 1 2).toNat) (fun _ => True) (τ 1 1) r ∧ fM t (kup τ 0 2 (kif (r = -1) 6 0))) = Q
    refine kloopP (E := fun i (z : Int × Int) => E_X12_telling_6 G' z.1 z.2 i τ Q) (fun i z => fb (fun r => sStrips (τ 1) r (τ 1 2).toNat) (fun _ => True) i z.1 ∧ (z.1 = -1 → z.2 = -1) ∧ (z.1 ≠ -1 → z.2 = sStrips (τ 1) z.1 (τ 1 2).toNat)) (τ 1 1).toNat (fun i z hi hI ih => S_X12_telling_6 ?_) (τ := (-1, -1)) ⟨fb_0, fun _ => rfl, fun n => absurd rfl n⟩
    obtain ⟨i1, i2, i3⟩ := hI
    have := fb_r i1
    have er1 := sStrips_r (v := τ 1) (r := i) (n := (τ 1 2).toNat)
    have zr : -1 ≤ z.2 ∧ z.2 ≤ (τ 1 2).toNat := by
      by_cases e : z.1 = -1
      · rw [i2 e]; omega
      · rw [i3 e]
        have := sStrips_r (v := τ 1) (r := z.1) (n := (τ 1 2).toNat)
        omega
    refine ⟨by omega, by omega, fun q => ?_, fun q => ⟨⟨w, by omega⟩, by constructor <;> omega, by constructor <;> omega, fun g => ih (by omega) (i, sStrips (τ 1) i (τ 1 2).toNat) ⟨fb_yes i1 trivial (by omega) (fun n => by rw [← i3 n]; exact g), fun e => by have : (i : Int) = -1 := e; omega, fun _ => rfl⟩, fun g => ih (by omega) z ⟨fb_no i1 (fun _ => ?_), i2, i3⟩⟩⟩
    · rw [← hQ]; exact ⟨by omega, by rw [show τ 1 1 = i by omega]; exact i1, fM.refl⟩
    · by_cases e : z.1 = -1
      · have := i2 e; omega
      · exact ⟨e, by rw [← i3 e]; exact g⟩
