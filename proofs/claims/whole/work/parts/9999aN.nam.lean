/-! names kept: the class's county holds v, and the names of its kites and crops are those at 4000 .. of v -/
def kNm (σ : Kmem) (c : Int) (v : Int → Int) : Prop := ∀ k, 0 ≤ k → k < 14 → σ (c + 6 + k) 0 = v (4000 + k)
def kcm (σ : Kmem) (c : Int) (v : Int → Int) : Prop := (kcoH σ c v ∧ kNm σ c v) ∧ kcoW σ c v ∧ kcoK σ c v ∧ kcoC σ c v ∧ kcoT σ c v
theorem kcm.k {σ : Kmem} {c : Int} {v : Int → Int} (h : kcm σ c v) : kco σ c v := ⟨h.1.1, h.2⟩
theorem kcm_of {σ : Kmem} {c : Int} {v : Int → Int} (h : kco σ c v) (n : kNm σ c v) : kcm σ c v := ⟨⟨h.1, n⟩, h.2⟩
theorem kcm_h {σ : Kmem} {c : Int} {v : Int → Int} (h : kcm σ c v) : (σ c 0 = v 0 ∧ σ c 1 = v 1 ∧ σ c 2 = v 5 ∧ σ c 3 = v 6) ∧ σ c 4 = v 7 ∧ σ c 5 = v 2 ∧ σ c 6 = v 3 ∧ σ c 7 = v 4 := kco_h h.k
theorem kcm_kfm {A : Int → Prop} {s σ : Kmem} {c : Int} {v : Int → Int} (w : wf v) (h : kcm σ c v) (f : kfm A s σ) (hA : ∀ x, c ≤ x → x < c + 26 → ¬ A x) : kcm s c v :=
  kcm_of (kco_kfm w h.k f hA) (fun k a b => by rw [f _ (hA _ (by omega) (by omega))]; exact h.1.2 k a b)
theorem kcm_up {σ : Kmem} {c x j y i z : Int} {v : Int → Int} (h : kcm σ c v) (hj : j ≠ 0 ∨ x < c + 6 ∨ c + 20 ≤ x) (hi : i < 4000) (k : kco (kup σ x j y) c (ku v i z)) : kcm (kup σ x j y) c (ku v i z) :=
  kcm_of k (fun n a b => by
    rw [ku_ne (by omega), ← h.1.2 n a b]
    by_cases e : c + 6 + n = x
    · rw [e]; exact kup_j (by omega)
    · exact kup_x e)
theorem kcm_cut {σ : Kmem} {c k x : Int} {v : Int → Int} (w : wf v) (h : kcm σ c v) (hk : 0 ≤ k ∧ k < v 2) : kcm (kup σ (c + 6 + k) 9 x) c (ku v (34 + 9 * k + 8) x) :=
  kcm_up h (Or.inl (by decide)) (by have := wf_h w; have := hk.1; have := hk.2; omega) (kco_cut w h.k hk)
theorem kcm_purse {σ : Kmem} {c k x : Int} {v : Int → Int} (w : wf v) (h : kcm σ c v) (hk : 0 ≤ k ∧ k < v 2) : kcm (kup σ (c + 6 + k) 7 x) c (ku v (34 + 9 * k + 5) x) :=
  kcm_up h (Or.inl (by decide)) (by have := wf_h w; have := hk.1; have := hk.2; omega) (kco_purse w h.k hk)
theorem kcm_col {σ : Kmem} {c k x : Int} {v : Int → Int} (w : wf v) (h : kcm σ c v) (hk : 0 ≤ k ∧ k < v 2) : kcm (kup σ (c + 6 + k) 1 x) c (ku v (34 + 9 * k) x) :=
  kcm_up h (Or.inl (by decide)) (by have := wf_h w; have := hk.1; have := hk.2; omega) (kco_col w h.k hk)
theorem kcm_row {σ : Kmem} {c k x : Int} {v : Int → Int} (w : wf v) (h : kcm σ c v) (hk : 0 ≤ k ∧ k < v 2) : kcm (kup σ (c + 6 + k) 2 x) c (ku v (34 + 9 * k + 1) x) :=
  kcm_up h (Or.inl (by decide)) (by have := wf_h w; have := hk.1; have := hk.2; omega) (kco_row w h.k hk)
theorem kcm_walked {σ : Kmem} {c k x : Int} {v : Int → Int} (w : wf v) (h : kcm σ c v) (hk : 0 ≤ k ∧ k < v 2) : kcm (kup σ (c + 6 + k) 8 x) c (ku v (34 + 9 * k + 6) x) :=
  kcm_up h (Or.inl (by decide)) (by have := wf_h w; have := hk.1; have := hk.2; omega) (kco_walked w h.k hk)
theorem kcm_grown {σ : Kmem} {c k x : Int} {v : Int → Int} (w : wf v) (h : kcm σ c v) (hk : 0 ≤ k ∧ k < v 3) : kcm (kup σ (c + 12 + k) 4 x) c (ku v (88 + 4 * k + 3) x) :=
  kcm_up h (Or.inl (by decide)) (by have := wf_h w; have := hk.1; have := hk.2; omega) (kco_grown w h.k hk)
theorem kcm_tcol {σ : Kmem} {c k x : Int} {v : Int → Int} (w : wf v) (h : kcm σ c v) (hk : 0 ≤ k ∧ k < v 4) : kcm (kup σ (c + 20 + k) 1 x) c (ku v (120 + 5 * k) x) :=
  kcm_up h (Or.inl (by decide)) (by have := wf_h w; have := hk.1; have := hk.2; omega) (kco_tcol w h.k hk)
theorem kcm_trow {σ : Kmem} {c k x : Int} {v : Int → Int} (w : wf v) (h : kcm σ c v) (hk : 0 ≤ k ∧ k < v 4) : kcm (kup σ (c + 20 + k) 2 x) c (ku v (120 + 5 * k + 1) x) :=
  kcm_up h (Or.inl (by decide)) (by have := wf_h w; have := hk.1; have := hk.2; omega) (kco_trow w h.k hk)
theorem kcm_tilled {σ : Kmem} {c k x : Int} {v : Int → Int} (w : wf v) (h : kcm σ c v) (hk : 0 ≤ k ∧ k < v 4) : kcm (kup σ (c + 20 + k) 4 x) c (ku v (120 + 5 * k + 3) x) :=
  kcm_up h (Or.inl (by decide)) (by have := wf_h w; have := hk.1; have := hk.2; omega) (kco_tilled w h.k hk)
theorem kcm_idle {σ : Kmem} {c k x : Int} {v : Int → Int} (w : wf v) (h : kcm σ c v) (hk : 0 ≤ k ∧ k < v 4) : kcm (kup σ (c + 20 + k) 5 x) c (ku v (120 + 5 * k + 4) x) :=
  kcm_up h (Or.inl (by decide)) (by have := wf_h w; have := hk.1; have := hk.2; omega) (kco_idle w h.k hk)
theorem kcm_hour {σ : Kmem} {c x : Int} {v : Int → Int} (w : wf v) (h : kcm σ c v) : kcm (kup σ c 4 x) c (ku v 7 x) :=
  kcm_up h (Or.inl (by decide)) (by omega) (kco_hour w h.k)
theorem N_X0_putCutSet {G : Kg} {σ : Kmem} {c l1 : Int} {v : Int → Int} {p : Int → Prop} (hc : isC c) (h : wf v ∧ kcm σ c v ∧ l1 = (kset p (v 2).toNat : Int)) : Run G WX M_X0_putCutSet 0 0 0 [vA G c, vI l1] σ (fun x s => x = 0 ∧ kfm (fun x => c + 6 ≤ x ∧ x < c + 12) s σ ∧ kcm s c (sPut v p (v 2).toNat)) := by
  obtain ⟨w, kk, rfl⟩ := h
  have w1 := wf_h w
  have ls := kset_lt8 (p := p) (n := (v 2).toNat) (by omega)
  refine S_X0_putCutSet hc ?_
  refine kloopP (E := fun i τ => E_X0_putCutSet_2 G c (kset p (v 2).toNat : Int) i τ (fun x s => x = 0 ∧ kfm (fun x => c + 6 ≤ x ∧ x < c + 12) s σ ∧ kcm s c (sPut v p (v 2).toNat))) (fun i τ => kfm (fun x => c + 6 ≤ x ∧ x < c + 12) τ σ ∧ kcm τ c (sPut v p i)) (v 2).toNat (fun i τ hi hI ih => S_X0_putCutSet_2 hc ?_) ⟨kfm.refl, kk⟩
  obtain ⟨f, k2⟩ := hI
  have ok := sPut_ok (p := p) w i (by omega)
  have k1 := kcm_h k2
  have e2 := ok.2 2 (by omega) (by omega)
  have nx : ∀ x : Int, i < (v 2).toNat → x = kb (p i) → E_X0_putCutSet_2 G c (kset p (v 2).toNat : Int) ((i : Int) + 1) (kup τ (c + 6 + i) 9 x) (fun x s => x = 0 ∧ kfm (fun x => c + 6 ≤ x ∧ x < c + 12) s σ ∧ kcm s c (sPut v p (v 2).toNat)) := by
    intro x hi2 hx
    refine ih hi2 _ ⟨(kfm_kup ⟨by omega, by omega⟩).trans f, ?_⟩
    rw [hx]
    exact kcm_cut ok.1 k2 ⟨by omega, by show (i : Int) < sPut v p i 2; rw [e2]; omega⟩
  refine ⟨by omega, by omega, fun z => ⟨rfl, f, by rw [show (v 2).toNat = i by omega]; exact k2⟩, fun z => ⟨by omega, ?_⟩⟩
  have e : kand (kshr (kset p (v 2).toNat : Int) i) 1 = kb (p i) := by
    rw [kin_bit (by omega) (by omega)]
    exact kb_iff (by rw [sIn_kset]; exact ⟨fun y => y.2, fun y => ⟨by omega, y⟩⟩)
  rw [e]
  refine ⟨kb_r _, fun y => nx 0 (by omega) ?_, fun y => nx 1 (by omega) y.symm⟩
  rcases kb_01 (p i) with u | u
  · exact u.symm
  · exact absurd u y

theorem N_X0_loseCrossed {G : Kg} {σ : Kmem} {c : Int} {v : Int → Int} (hc : isC c) (p : wf v ∧ kcm σ c v) : Run G WX M_X0_loseCrossed 3 0 0 [vA G c, vA G 58] σ (fun x s => x = (sDooms v : Int) ∧ kfm (fun x => (c + 6 ≤ x ∧ x < c + 12) ∨ (58 ≤ x ∧ x ≤ 63)) s σ ∧ kcm s c (sCuts v) ∧ skR s c (sCuts v) (v 7 % 12) (sCt (sCuts v)) ∧ skD s (sCuts v) (sCt (sCuts v)) (v 7 % 12)) := by
  obtain ⟨w, kk⟩ := p
  have w1 := wf_h w
  have k1 := kcm_h kk
  have cr := isC_r hc
  have hh : sHr (v 7 % 12) := ⟨by omega, by omega⟩
  refine S_X0_loseCrossed hc ⟨by omega, Run.mono (P_X0_cutSet hc ⟨w, kk.k⟩) (fun r s z => ?_)⟩
  rw [z.1, z.2]
  rw [k1.2.1]
  refine Run.mono (P_X8_raise (v := v) (q := sCt v) hc ⟨w, kk.k, hh, rfl⟩) (fun r s1 z => ?_)
  obtain ⟨-, f1, sk1⟩ := z
  have kk1 := kcm_kfm w kk f1 (fun x a b u => by have := u.1; have := u.2; omega)
  refine Run.mono (P_X8_crossedSet hc ⟨⟨w, kk1.k, sk1⟩, hh⟩) (fun r s2 z => ?_)
  obtain ⟨rfl, rfl⟩ := z
  have eD : kset (sGat v (sCt v) (v 7 % 12) (v 2) 0) (v 2).toNat = sDooms v := kset_ext _ (fun k hk => gat_doom ⟨by omega, by omega⟩)
  rw [eD]
  refine Run.mono (P_X0_cutSet hc ⟨w, kk1.k⟩) (fun r s3 z => ?_)
  obtain ⟨rfl, rfl⟩ := z
  have eU : kor (kset (sCt v) (v 2).toNat : Int) (sDooms v : Int) = (kset (fun k => v (34 + 9 * k + 8) = 1 ∨ sDoom v k) (v 2).toNat : Int) := by
    have l1 := kset_lt8 (p := sCt v) (n := (v 2).toNat) (by omega)
    have l2 := kset_lt8 (p := sDoom v) (n := (v 2).toNat) (by omega)
    unfold sDooms
    rw [kor_nat (by omega) (by omega)]
    congr 1
    apply Nat.eq_of_testBit_eq
    intro x
    rw [Nat.testBit_or, Bool.eq_iff_iff, Bool.or_eq_true, kset_bit, kset_bit, kset_bit]
    constructor
    · rintro (⟨a, b⟩ | ⟨a, b⟩)
      · exact ⟨a, Or.inl b⟩
      · exact ⟨a, Or.inr b⟩
    · rintro ⟨a, b | b⟩
      · exact Or.inl ⟨a, b⟩
      · exact Or.inr ⟨a, b⟩
  refine Run.mono (N_X0_putCutSet (v := v) (p := fun k => v (34 + 9 * k + 8) = 1 ∨ sDoom v k) hc ⟨w, kk1, eU⟩) (fun r s4 z => ?_)
  obtain ⟨-, f4, kk4⟩ := z
  have av := fun (k : Nat) (hk : k < (v 2).toNat) => sPut_v (v := v) (p := fun k => v (34 + 9 * k + 8) = 1 ∨ sDoom v k) (v 2).toNat hk
  have an := fun (j : Int) (hj : ∀ k : Nat, k < (v 2).toNat → j ≠ 34 + 9 * (k : Int) + 8) => sPut_at (v := v) (p := fun k => v (34 + 9 * k + 8) = 1 ∨ sDoom v k) (v 2).toNat hj
  rw [sCuts_put w] at kk4 av an
  have ok := sCuts_ok w
  generalize hu : sCuts v = u at *
  have u2 : u 2 = v 2 := ok.2 2 (by omega) (by omega)
  have e58 : s4 58 = s3 58 := f4 58 (fun z => by have := z.1; have := z.2; omega)
  have fs : kfm (fun x => (c + 6 ≤ x ∧ x < c + 12) ∨ (58 ≤ x ∧ x ≤ 63)) (kup s4 58 1 (kand (s4 58 1) (kxor (sDooms v : Int) (-1)))) σ := by
    refine (kfm_kup (Or.inr ⟨by omega, by omega⟩)).trans ((f4.wide (fun x z => Or.inl z)).trans (f1.wide (fun x z => Or.inr ⟨z.1, by have := z.2; omega⟩)))
  have kk5 : kcm (kup s4 58 1 (kand (s4 58 1) (kxor (sDooms v : Int) (-1)))) c u := kcm_kfm ok.1 kk4 (kfm_kup (A := fun x => x = 58) rfl) (fun x a b z => by omega)
  have ent : ∀ (k : Int) (j : Int), 0 ≤ k → k < v 2 → 0 ≤ j → j < 8 → u (34 + 9 * k + j) = v (34 + 9 * k + j) := fun k j a b x y => an _ (fun m hm => by omega)
  have ent0 : ∀ (k : Int), 0 ≤ k → k < v 2 → u (34 + 9 * k) = v (34 + 9 * k) := fun k a b => an _ (fun m hm => by omega)
  have wi : ∀ j, 0 ≤ j → j < 34 → u j = v j := fun j a b => ok.2 j a b
  have bo : ∀ k, 0 ≤ k → k < v 2 → (sBorne u k (v 7 % 12) ↔ sBorne v k (v 7 % 12)) := fun k a b => by
    unfold sBorne; rw [ent k 4 a b (by omega) (by omega), wi _ (by omega) (by omega)]
  have fr : ∀ k, 0 ≤ k → k < v 2 → sFar u k (v 7 % 12) = sFar v k (v 7 % 12) := fun k a b => by
    unfold sFar; rw [ent k 3 a b (by omega) (by omega), wi _ (by omega) (by omega)]
  have tr : ∀ k, 0 ≤ k → k < v 2 → sTrn u k (v 7 % 12) = sTrn v k (v 7 % 12) := fun k a b => by
    unfold sTrn; rw [ent k 7 a b (by omega) (by omega), wi _ (by omega) (by omega)]
  have sk5 : skR (kup s4 58 1 (kand (s4 58 1) (kxor (sDooms v : Int) (-1)))) c u (v 7 % 12) (sCt u) := by
    obtain ⟨g0, g1, g2⟩ := sk1
    refine ⟨by rw [kup_j (by omega), e58]; exact g0, ?_, fun k a b => ?_⟩
    · rw [kup_at, e58, g1, u2]
      unfold sDooms
      rw [kand_diff (by omega)]
      congr 1
      refine kset_ext _ (fun k hk => ?_)
      rw [bo k (by omega) (by omega)]
      have := av k hk
      have ic : sCt u k ↔ (sCt v k ∨ sDoom v k) := by
        show u (34 + 9 * (k : Int) + 8) = 1 ↔ _
        rw [this]
        by_cases y : v (34 + 9 * (k : Int) + 8) = 1 ∨ sDoom v k
        · rw [kb_1 y]; exact ⟨fun _ => y, fun _ => rfl⟩
        · rw [kb_0 y]; exact ⟨fun z => by omega, fun z => absurd z y⟩
      rw [ic]
      constructor
      · rintro ⟨⟨z1, z2⟩, z3⟩; exact ⟨z1, fun z => z.elim z2 z3⟩
      · rintro ⟨z1, z2⟩; exact ⟨⟨z1, fun z => z2 (Or.inl z)⟩, fun z => z2 (Or.inr z)⟩
    · rw [u2] at b
      have := g2 k a b
      rw [kup_x (by omega), kup_x (by omega), kup_x (by omega), f4 59 (fun z => by have := z.1; have := z.2; omega), f4 60 (fun z => by have := z.1; have := z.2; omega), f4 61 (fun z => by have := z.1; have := z.2; omega), this.1, this.2.1, this.2.2]
      refine ⟨?_, ?_, ?_⟩
      · unfold sCol; rw [ent0 k a b, fr k a b, tr k a b]
      · unfold sRow; rw [ent k 1 a b (by omega) (by omega), fr k a b, tr k a b]
      · unfold sSz; rw [ent k 2 a b (by omega) (by omega), wi 5 (by omega) (by omega)]
  refine Run.mono (P_X8_castShade (v := u) (q := sCt u) (h := v 7 % 12) hc ⟨⟨ok.1, kk5.k, sk5⟩, hh⟩) (fun r s z => ?_)
  obtain ⟨-, f6, d6⟩ := z
  exact ⟨rfl, (f6.wide (fun x z => Or.inr ⟨by have := z.1; omega, by have := z.2; omega⟩)).trans fs, kcm_kfm ok.1 kk5 f6 (fun x a b z => by have := z.1; have := z.2; omega), skR_kfm f6 sk5, d6⟩

theorem N_X0_growCrops {G : Kg} {σ : Kmem} {c : Int} {v : Int → Int} (hc : isC c) (p : wf v ∧ kcm σ c (sCuts v) ∧ skD σ (sCuts v) (sCt (sCuts v)) (v 7 % 12)) : Run G WX M_X0_growCrops 2 0 0 [vA G c, vA G 58] σ (fun x s => x = 0 ∧ kfm (fun x => c ≤ x ∧ x < c + 26) s σ ∧ kcm s c (sCrops v (v 3).toNat)) := by
  obtain ⟨w, kk, sd⟩ := p
  have w1 := wf_h w
  have cr := isC_r hc
  have okc := sCuts_ok w
  refine S_X0_growCrops hc ?_
  refine kloopP (E := fun i τ => E_X0_growCrops_2 G c i τ (fun x s => x = 0 ∧ kfm (fun x => c ≤ x ∧ x < c + 26) s σ ∧ kcm s c (sCrops v (v 3).toNat))) (fun i τ => kfm (fun x => c ≤ x ∧ x < c + 26) τ σ ∧ kcm τ c (sCrops v i)) (v 3).toNat (fun i τ hi hI ih => S_X0_growCrops_2 hc ?_) ⟨kfm.refl, kk⟩
  obtain ⟨f, k2⟩ := hI
  have ok := sCrops_ok w i (by omega)
  have geo := sCrops_geo w i (by omega)
  have k1 := kcm_h k2
  have e0 := ok.2 0 (by omega) (by omega)
  have e1 := ok.2 1 (by omega) (by omega)
  have e2 := ok.2 2 (by omega) (by omega)
  have e3 := ok.2 3 (by omega) (by omega)
  have e7 := ok.2 7 (by omega) (by omega)
  have d0 := okc.2 0 (by omega) (by omega)
  have d1 := okc.2 1 (by omega) (by omega)
  refine ⟨by omega, by omega, fun z => ⟨rfl, f, by rw [show (v 3).toNat = i by omega]; exact k2⟩, fun z => ?_⟩
  have hi2 : (i : Int) < sCrops v i 3 := by omega
  have kc := k2.2.2.2.1 i (by omega) hi2
  have wc := ok.1.2.2.2.1 i (by omega) hi2
  have ih := ih (by omega)
  rw [show sCrops v (i + 1) = sCrop (sCrops v i) i from rfl] at ih
  generalize hu : sCrops v i = u at *
  have ow := (skD_own (c := u (88 + 4 * i)) (r := u (88 + 4 * i + 1)) okc.1 sd ⟨⟨by omega, by omega⟩, by omega, by omega⟩).2
  rw [← kgeo_own okc.1 geo ⟨by omega, by omega⟩, ← e7] at ow
  have o := sOwn_r (v := u) (c := u (88 + 4 * i)) (r := u (88 + 4 * i + 1)) (h := u 7 % 12) ok.1
  have t63 : τ 63 = σ 63 := f 63 (fun y => by have := y.1; have := y.2; omega)
  rw [kc.1.1, kc.1.2, kc.2.2, t63, ow]
  refine ⟨by omega, by omega, by omega, by omega, fun y => ?_, fun y => ⟨by omega, by omega, by omega, ?_⟩⟩
  · refine ih τ ⟨f, ?_⟩
    unfold sCrop; rw [kif_t y]; exact k2
  · have wg := wf_grown (x := min 99 (u (88 + 4 * i + 3) + 1)) ok.1 (k := i) ⟨by omega, hi2⟩ (by omega)
    have kg := kcm_grown (x := min 99 (u (88 + 4 * i + 3) + 1)) ok.1 k2 ⟨by omega, hi2⟩
    have ho : (0 : Int) ≤ sOwn u (u (88 + 4 * i)) (u (88 + 4 * i + 1)) (u 7 % 12) ∧ sOwn u (u (88 + 4 * i)) (u (88 + 4 * i + 1)) (u 7 % 12) < ku u (88 + 4 * i + 3) (min 99 (u (88 + 4 * i + 3) + 1)) 2 := by rw [ku_ne (by omega)]; omega
    have kp := (kg.2.2.1 _ ho.1 ho.2).2.1.2.2
    have wp := wg.2.2.1 _ ho.1 ho.2
    rw [kp]
    refine ⟨by omega, ih _ ⟨(kfm_kup ⟨by omega, by omega⟩).trans ((kfm_kup ⟨by omega, by omega⟩).trans f), ?_⟩⟩
    have := kcm_purse (x := min 9999 (ku u (88 + 4 * i + 3) (min 99 (u (88 + 4 * i + 3) + 1)) (34 + 9 * sOwn u (u (88 + 4 * i)) (u (88 + 4 * i + 1)) (u 7 % 12) + 5) + 1)) wg kg ho
    unfold sCrop; rw [kif_f y]; exact this

theorem N_X0_follow {G : Kg} {σ : Kmem} {c t : Int} {v : Int → Int} (hc : isC c) (ha : kIsX (c + 20 + t) 9) (p : (wf v ∧ kcm σ c v ∧ σ 58 0 = c) ∧ (0 ≤ t ∧ t < v 4) ∧ ∀ x y, sFld v x y → σ 63 (y * 9 + x) = sOwn v x y (v 7 % 12)) :
    Run G WX M_X0_follow 3 0 0 [vA G c, vA G (c + 20 + t), vA G 58] σ (fun x s => x = 0 ∧ kfm (fun x => c ≤ x ∧ x < c + 26) s σ ∧ kcm s c (sGo v t)) := by
  have P : (wf v ∧ kco σ c v ∧ σ 58 0 = c) ∧ (0 ≤ t ∧ t < v 4) ∧ ∀ x y, sFld v x y → σ 63 (y * 9 + x) = sOwn v x y (v 7 % 12) := ⟨⟨p.1.1, p.1.2.1.k, p.1.2.2⟩, p.2⟩
  obtain ⟨⟨w, kk, s0⟩, ht, ho⟩ := p
  have w1 := wf_h w
  have k1 := kcm_h kk
  have kt := kk.2.2.2.2 t ht.1 ht.2
  have wt := w.2.2.2.2 t ht.1 ht.2
  have ht1 := ht.1
  have ht2 := ht.2
  have ow := ho (v (120 + 5 * t)) (v (120 + 5 * t + 1)) ⟨⟨by omega, by omega⟩, by omega, by omega⟩
  have o := sOwn_r (v := v) (c := v (120 + 5 * t)) (r := v (120 + 5 * t + 1)) (h := v 7 % 12) w
  have fr : ∀ (x j y : Int) (τ : Kmem), c ≤ x → x < c + 26 → kfm (fun x => c ≤ x ∧ x < c + 26) (kup τ x j y) τ := fun x j y τ a b => kfm_kup ⟨a, b⟩
  refine S_X0_follow hc ha ?_
  rw [kt.1.1, kt.1.2, kt.2.1, ow, kup_j (by omega), kt.2.1]
  refine ⟨by omega, by omega, by omega, fun h => Run.mono (P_X8_nearestOf hc ha P) (fun x s z => ?_), fun h => ?_⟩
  · obtain ⟨rfl, rfl⟩ := z
    have ok := sNext_ok (t := t) w ht (v 1).toNat (by omega)
    have dr := sDec_r w ht ok
    unfold sGo
    rw [kif_f h]
    by_cases q : (sNext v t (v 1).toNat).1 = 1000000
    · have e : (sDec (sNext v t (v 1).toNat)).1 = -1 := by unfold sDec; rw [if_pos q]
      rw [e, kif_t q]
      refine ⟨by omega, fun y => absurd rfl y, fun _ => ⟨rfl, fr _ _ _ _ (by omega) (by omega), ?_⟩⟩
      rw [kt.2.2.2]
      exact kcm_idle w kk ht
    · have e : (sDec (sNext v t (v 1).toNat)).1 = (sNext v t (v 1).toNat).2.2 * 9 + (sNext v t (v 1).toNat).2.1 := by unfold sDec; rw [if_neg q]
      have ok2 := ok.2 q
      have e1 : ((sNext v t (v 1).toNat).2.2 * 9 + (sNext v t (v 1).toNat).2.1) % 9 = (sNext v t (v 1).toNat).2.1 := by omega
      have e2 : ((sNext v t (v 1).toNat).2.2 * 9 + (sNext v t (v 1).toNat).2.1) / 9 = (sNext v t (v 1).toNat).2.2 := by omega
      rw [e, kif_f q, e1, e2]
      refine ⟨by omega, fun _ => ⟨by omega, by omega, S_X9_stepTowards ha ?_⟩, fun y => by omega⟩
      rw [kt.1.1, kt.1.2]
      unfold sNear
      refine ⟨by omega, by omega, fun y => ⟨by omega, by omega, fun y2 => ?_, fun y2 => ⟨fun y3 => ⟨rfl, fr _ _ _ _ (by omega) (by omega), ?_⟩, fun y3 => ⟨rfl, fr _ _ _ _ (by omega) (by omega), ?_⟩⟩⟩, fun y => ⟨fun y3 => ⟨rfl, fr _ _ _ _ (by omega) (by omega), ?_⟩, fun y3 => ⟨rfl, fr _ _ _ _ (by omega) (by omega), ?_⟩⟩⟩
      · exfalso
        apply h
        have oo := ok2.2
        rw [y, y2] at oo; exact oo
      · rw [if_pos y.symm, if_neg (by omega)]; exact kcm_trow w kk ht
      · rw [if_pos y.symm, if_pos (by omega)]; exact kcm_trow w kk ht
      · rw [if_neg (fun u => y u.symm), if_neg (by omega)]; exact kcm_tcol w kk ht
      · rw [if_neg (fun u => y u.symm), if_pos (by omega)]; exact kcm_tcol w kk ht
  · have wg := wf_tilled (j := 3) (x := v (120 + 5 * t + 3) + 1) w ht (by omega)
    have kg := kcm_tilled (x := v (120 + 5 * t + 3) + 1) w kk ht
    have hk : (0 : Int) ≤ v (120 + 5 * t + 2) ∧ v (120 + 5 * t + 2) < ku v (120 + 5 * t + 3) (v (120 + 5 * t + 3) + 1) 2 := by rw [ku_ne (by omega)]; omega
    have kp := (kg.2.2.1 _ hk.1 hk.2).2.1.2.2
    have wp := wg.2.2.1 _ hk.1 hk.2
    rw [kt.2.2.1, kp]
    refine ⟨by omega, by omega, rfl, (fr _ _ _ _ (by omega) (by omega)).trans (fr _ _ _ _ (by omega) (by omega)), ?_⟩
    unfold sGo; rw [kif_t h]
    exact kcm_purse wg kg hk

theorem N_X0_goBy {G : Kg} {σ : Kmem} {c n : Int} {v : Int → Int} (hc : isC c) (p : wf v ∧ kcm σ c v ∧ v 7 ≤ 20000 ∧ 0 ≤ n ∧ n ≤ 1000) : Run G WX M_X0_goBy 4 0 0 [vA G c, vA G 58, vI n] σ (fun x s => x = sHSet v n.toNat ∧ kfm (ctyA c) s σ ∧ kcm s c (sHours v n.toNat)) := by
  obtain ⟨w0, kk0, h7, hn⟩ := p
  have cr := isC_r hc
  refine S_X0_goBy hc ?_
  refine kloopP (E := fun i (z : Int × Kmem) => E_X0_goBy_5 G c n z.1 i z.2 (fun x s => x = sHSet v n.toNat ∧ kfm (ctyA c) s σ ∧ kcm s c (sHours v n.toNat))) (fun i z => z.1 = sHSet v i ∧ kfm (ctyA c) z.2 σ ∧ kcm z.2 c (sHours v i)) n.toNat (fun i z hi hI ih => S_X0_goBy_5 hc ?_) (τ := (0, σ)) ⟨rfl, kfm.refl, kk0⟩
  obtain ⟨z1, f, kk⟩ := hI
  have okH := sHours_ok w0 i (by omega)
  refine ⟨by omega, by omega, fun q => ⟨by rw [show n.toNat = i by omega]; exact z1, f, by rw [show n.toNat = i by omega]; exact kk⟩, fun q => ?_⟩
  have w := okH.1
  have w1 := wf_h w
  have ih := ih (by omega)
  have eS : sHours v (i + 1) = sBy (sHours v i) := rfl
  rw [eS] at ih
  have eT : sHSet v (i + 1) = kor (sHSet v i) (sDooms (sHours v i) : Int) := rfl
  rw [eT] at ih
  generalize sHours v i = V at *
  refine Run.mono (N_X0_loseCrossed hc ⟨w, kk⟩) (fun x s z => ?_)
  obtain ⟨rfl, f1, k1, sr, sd⟩ := z
  refine Run.mono (N_X0_growCrops hc ⟨w, k1, sd⟩) (fun x s2 z => ?_)
  obtain ⟨-, f2, k2⟩ := z
  have okc := sCuts_ok w
  have d0 := okc.2 0 (by omega) (by omega)
  have d1 := okc.2 1 (by omega) (by omega)
  refine kloopP (E := fun t τ => E_X0_goBy_27 G c n (kor z.1 (sDooms V : Int)) i t τ (fun x s => x = sHSet v n.toNat ∧ kfm (ctyA c) s σ ∧ kcm s c (sHours v n.toNat))) (fun t τ => kfm (fun x => c ≤ x ∧ x < c + 26) τ s ∧ kcm τ c (sTens V t)) (V 4).toNat (fun t τ ht hI jh => S_X0_goBy_27 hc ?_) ⟨f2, k2⟩
  obtain ⟨f3, k3⟩ := hI
  have okt := sTens_ok w t (by omega)
  have geo := sTens_geo w t (by omega)
  have kh := kcm_h k3
  have t4 := okt.2 4 (by omega) (by omega)
  have t7 := okt.2 7 (by omega) (by omega)
  have t0 := okt.2 0 (by omega) (by omega)
  have t1 := okt.2 1 (by omega) (by omega)
  refine ⟨by omega, by omega, fun y => ?_, fun y => ⟨by omega, Run.mono (N_X0_follow hc (kIsX_ten hc ⟨by omega, by omega⟩) ⟨⟨okt.1, k3, ?_⟩, ⟨by omega, by omega⟩, fun a b hab => ?_⟩) (fun x s4 u => jh (by omega) s4 ⟨u.2.1.trans f3, u.2.2⟩)⟩⟩
  · have hx := ih (kor z.1 (sDooms V : Int), kup τ c 4 (τ c 4 + 1)) ⟨by rw [z1], ?_, ?_⟩
    · exact hx
    · exact (kfm_kup (Or.inl ⟨by omega, by omega⟩)).trans ((f3.wide (fun x z => Or.inl z)).trans ((f1.wide (fun x z => by rcases z with z | z; exact Or.inl ⟨by omega, by omega⟩; exact Or.inr z)).trans f))
    · have := kcm_hour (x := τ c 4 + 1) okt.1 k3
      rw [kh.2.1, t7, show t = (V 4).toNat by omega] at this
      rw [kh.2.1, t7]; exact this
  · rw [f3 58 (fun z => by have := z.1; have := z.2; omega)]; exact sr.1
  · rw [f3 63 (fun z => by have := z.1; have := z.2; omega), (skD_own okc.1 sd ⟨⟨hab.1.1, by have := hab.1.2; omega⟩, hab.2.1, by have := hab.2.2; omega⟩).2, t7]
    exact (kgeo_own okc.1 geo ⟨by omega, by omega⟩).symm

theorem N_X0_stepHand {G : Kg} {σ : Kmem} {c k s : Int} {v : Int → Int} (hc : isC c) (p : wf v ∧ kcm σ c v ∧ sKt v k ∧ sMay v k s ∧ 0 ≤ s ∧ s < 5) : Run G WX M_X0_stepHand 0 0 0 [vA G c, vI k, vI s] σ (fun x t => x = 0 ∧ kfm (ctyC c) t σ ∧ kcm t c (sWalk v k s)) := by
  obtain ⟨w, kk, ⟨hk1, hk2⟩, hm, hs⟩ := p
  have w1 := wf_h w
  have kc := kk.2.2.1 k hk1 hk2
  have wa := wf_col (k := k) w ⟨hk1, hk2⟩ hm.1
  have ka := kcm_col (x := v (34 + 9 * k) + sStepC s) w kk ⟨hk1, hk2⟩
  have h2 : sKt (ku v (34 + 9 * k) (v (34 + 9 * k) + sStepC s)) k := ⟨hk1, by rw [ku_ne (by omega)]; exact hk2⟩
  have wb := wf_row (k := k) (x := v (34 + 9 * k + 1) + sStepR s) wa h2 (by rw [ku_ne (by omega)]; exact hm.2)
  have kb := kcm_row (x := v (34 + 9 * k + 1) + sStepR s) wa ka h2
  have h3 : sKt (ku (ku v (34 + 9 * k) (v (34 + 9 * k) + sStepC s)) (34 + 9 * k + 1) (v (34 + 9 * k + 1) + sStepR s)) k := ⟨hk1, by rw [ku_ne (by omega)]; exact h2.2⟩
  have kw := kcm_walked (x := v (34 + 9 * k + 6) + 1) wb kb h3
  have fr : ∀ {τ : Kmem} {j y : Int}, kfm (ctyC c) (kup τ (c + 6 + k) j y) τ := kfm_kup ⟨by omega, by omega⟩
  refine S_X0_stepHand hc ⟨by omega, hs, by omega, hs, by omega, fun z => ⟨rfl, fr.trans fr, ?_⟩, fun z => ⟨by omega, rfl, fr.trans (fr.trans fr), ?_⟩⟩
  · rw [(kst0_c hs).1, (kst0_c hs).2, kup_j (by omega), kc.1.1, kc.1.2.1]
    have e : sWalk v k s = ku (ku v (34 + 9 * k) (v (34 + 9 * k) + sStepC s)) (34 + 9 * k + 1) (v (34 + 9 * k + 1) + sStepR s) := by
      unfold sWalk
      rw [if_pos z, Int.add_zero]
      have := ku_self (v := ku (ku v (34 + 9 * k) (v (34 + 9 * k) + sStepC s)) (34 + 9 * k + 1) (v (34 + 9 * k + 1) + sStepR s)) (i := 34 + 9 * k + 6)
      rw [ku_ne (by omega), ku_ne (by omega)] at this
      exact this
    rw [e]; exact kb
  · simp (disch := omega) only [kup_j]
    rw [(kst0_c hs).1, (kst0_c hs).2, kc.1.1, kc.1.2.1, kc.2.2.1]
    have e : sWalk v k s = ku (ku (ku v (34 + 9 * k) (v (34 + 9 * k) + sStepC s)) (34 + 9 * k + 1) (v (34 + 9 * k + 1) + sStepR s)) (34 + 9 * k + 6) (v (34 + 9 * k + 6) + 1) := by
      unfold sWalk; rw [if_neg z]
    rw [e]; exact kw
theorem N_X4_stepOrMiss {G : Kg} {σ : Kmem} {x c k s : Int} {v : Int → Int} (hx : isLf x) (hc : isC c) (p : wf v ∧ kcm σ c v ∧ sKt v k ∧ 0 ≤ s ∧ s < 5) : Run G WX M_X4_stepOrMiss 3 0 0 [vA G x, vA G c, vI k, vI s] σ (fun y t => y = 0 ∧ (sMay v k s → ∃ u, kfm (ctyC c) u σ ∧ kcm u c (sWalk v k s) ∧ t = kup u x 4 (σ x 4 + 1)) ∧ (¬ sMay v k s → t = kup σ x 2 (σ x 2 + 1))) := by
  obtain ⟨w, kk, hk, hs⟩ := p
  have lx := isLf_r hx
  have lc := isC_q hc
  refine S_X4_stepOrMiss hx hc (Run.mono (P_X0_mayStep hc ⟨w, kk.k, hk, hs⟩) (fun y t z => ?_))
  rw [z.1, z.2]
  refine ⟨kb_r _, fun n => ⟨rfl, fun m => absurd m (kb_f n), fun _ => rfl⟩, fun n => Run.mono (N_X0_stepHand hc ⟨w, kk, hk, kb_t n, hs⟩) (fun y2 u z2 => ?_)⟩
  refine ⟨rfl, fun _ => ⟨u, z2.2.1, z2.2.2, ?_⟩, fun m => absurd (kb_t n) m⟩
  rw [z2.2.1 x (by omega)]
def N_lRel (σ : Kmem) (x c s : Int) (τ : Kmem) (k : Int) : Prop := (kcm σ c (τ 1) ∧ kpr σ s (τ 1)) ∧ (σ x 0 = 1 ∧ σ x 1 = τ 0 36 ∧ σ x 2 = τ 19 0 ∧ σ x 3 = τ 19 1 ∧ σ x 4 = τ 19 2 ∧ σ x 5 = τ 19 3 ∧ σ x 6 = τ 19 4 ∧ σ x 7 = τ 0 35) ∧ rRel (τ 1) (σ (x + 1)) (τ 18) k
theorem N_lRel_mk {σ t τ : Kmem} {x c s k nx : Int} (h : sLv τ k) (hk : k < τ 1 8) (h22 : ((τ 1) (150 + 6 * k)) ≠ 22) (R : rRel (τ 1) (σ (x + 1)) (τ 18) k)
    (q1 : kcm t c ((sDo τ k).2 1)) (q2 : kpr t s (τ 1)) (q3 : t x 0 = 1) (q4 : t x 1 = τ 0 36) (q5 : t x 2 = τ 19 0 + kb ((sDo τ k).1 = 0)) (q6 : t x 3 = (sDo τ k).2 19 1) (q7 : t x 4 = (sDo τ k).2 19 2) (q8 : t x 5 = (sDo τ k).2 19 3) (q9 : t x 6 = τ 19 4) (q10 : t x 7 = (sDo τ k).2 0 35)
    (q11 : ((τ 1) (150 + 6 * k)) = 21 → t (x + 1) = ku (σ (x + 1)) k (τ 1 (150 + 6 * k + 1))) (q12 : ((τ 1) (150 + 6 * k)) ≠ 21 → t (x + 1) = σ (x + 1)) (hn : nx = k + 1 ∨ (2024 ≤ ((τ 1) (150 + 6 * k)) ∧ nx = ((τ 1) (150 + 6 * k + 4)) + 1)) : N_lRel t x c s (sAft τ k) nx := by
  have ok := sAft_ok h hk
  have f := sAft_f h hk
  have p8 := h.1.2.1.1
  have k0 := h.2.1
  have eq := ok.2.1.2.2.2
  have nr : nx ≤ τ 1 8 := by
    rcases hn with rfl | ⟨h24, rfl⟩
    · omega
    · have ln := (h.1.2.1.2.1 k k0.1 hk).2.2.2.2.2.2.2.1 (Or.inr h24); omega
  refine ⟨⟨by rw [ok.2.2.2.2.2.1]; exact q1, kpr_eq q2 eq p8.2⟩, ⟨q3, by rw [q4, ok.2.2.2.2.1], by rw [q5, f.1], by rw [q6, f.2.1 1 (by omega)], by rw [q7, f.2.1 2 (by omega)], by rw [q8, f.2.1 3 (by omega)], by rw [q9, ok.2.2.2.2.2.2], by rw [q10, f.2.2.1]⟩, rRel_eq eq p8.2 nr ?_⟩
  by_cases q : ((τ 1) (150 + 6 * k)) = 21
  · rw [f.2.2.2.1 q, q11 q]
    have e : nx = k + 1 := by rcases hn with e | ⟨e, -⟩ <;> omega
    rw [e]; exact rRel_loop R
  · rw [f.2.2.2.2 q, q12 q]
    exact rRel_same h.1.2.1 ⟨k0.1, hk⟩ R q hn
def N_lCx (σ τ : Kmem) (x c s k : Int) : Prop := (isLf x ∧ isC c ∧ isS s) ∧ sLv τ k ∧ k < τ 1 8 ∧ N_lRel σ x c s τ k
def N_lPo (σ τ : Kmem) (x c s k : Int) (y : Int) (t : Kmem) : Prop := kfm (lfA c x) t σ ∧ ((τ 1 (150 + 6 * k)) = 23 → y = τ 1 8 ∧ t = σ) ∧ ((τ 1 (150 + 6 * k)) ≠ 23 → y = sNxt (sAft τ k 1) k ∧ N_lRel t x c s (sAft τ k) y)
theorem N_lCx_pr {σ τ t : Kmem} {x c s k : Int} (p : N_lCx σ τ x c s k) (f : kfm (lfA c x) t σ) : kpr t s (τ 1) := by
  obtain ⟨⟨hx, hc, hs⟩, -, -, ⟨-, pr⟩, -, -⟩ := p
  have lx := isLf_r hx
  have ls := isS_q hs
  have cs := isCS hc hs
  refine kpr_kfm pr f (fun y a b z => ?_)
  rcases z with z | z | z | z
  · have z1 := z.1; have z2 := z.2; omega
  · omega
  · omega
  · omega
theorem N_lPo_mk {σ τ t : Kmem} {x c s k y : Int} (p : N_lCx σ τ x c s k) (n : (τ 1 (150 + 6 * k)) ≠ 23) (h22 : (τ 1 (150 + 6 * k)) ≠ 22) (f : kfm (lfA c x) t σ)
    (q1 : kcm t c ((sDo τ k).2 1)) (q3 : t x 0 = 1) (q4 : t x 1 = τ 0 36) (q5 : t x 2 = τ 19 0 + kb ((sDo τ k).1 = 0)) (q6 : t x 3 = (sDo τ k).2 19 1) (q7 : t x 4 = (sDo τ k).2 19 2) (q8 : t x 5 = (sDo τ k).2 19 3) (q9 : t x 6 = τ 19 4) (q10 : t x 7 = (sDo τ k).2 0 35)
    (q11 : (τ 1 (150 + 6 * k)) = 21 → t (x + 1) = ku (σ (x + 1)) k (τ 1 (150 + 6 * k + 1))) (q12 : (τ 1 (150 + 6 * k)) ≠ 21 → t (x + 1) = σ (x + 1)) (hn : y = k + 1 ∨ (2024 ≤ (τ 1 (150 + 6 * k)) ∧ y = (τ 1 (150 + 6 * k + 4)) + 1)) (hy : y = sNxt (sAft τ k 1) k) : N_lPo σ τ x c s k y t :=
  ⟨f, fun e => absurd e n, fun _ => ⟨hy, N_lRel_mk p.2.1 p.2.2.1 h22 p.2.2.2.2.2 q1 (N_lCx_pr p f) q3 q4 q5 q6 q7 q8 q9 q10 q11 q12 hn⟩⟩
theorem N_lPo_miss {σ τ : Kmem} {x c s k d : Int} (p : N_lCx σ τ x c s k) (n : (τ 1 (150 + 6 * k)) < 21) (eD : sDo τ k = (0, kup τ 0 35 d)) {t : Kmem} (et : t = kup (kup σ x 7 d) x 2 (σ x 2 + 1)) : N_lPo σ τ x c s k (k + 1) t := by
  have p' := p
  obtain ⟨⟨hx, hc, hs⟩, h, hk, ⟨kk, pr⟩, ⟨x0, x1, x2, x3, x4, x5, x6, x7⟩, R⟩ := p'
  have lx := isLf_r hx
  have lc := isC_q hc
  have w := h.1.1
  have fr : kfm (lfA c x) t σ := by rw [et]; exact lfx.trans lfx
  refine N_lPo_mk p (by omega) (by omega) fr ?_ ?_ ?_ ?_ ?_ ?_ ?_ ?_ ?_ (fun e => by omega) (fun _ => ?_) (Or.inl rfl) (lNx h hk (by omega))
  · rw [eD, et]; dsimp only
    rw [kup_o (a := 0) (by omega)]
    exact kcm_kfm w kk (kfm_at.trans kfm_at) (fun y a b z => by omega)
  · rw [et, kup_j (by omega), kup_j (by omega)]; exact x0
  · rw [et, kup_j (by omega), kup_j (by omega)]; exact x1
  · rw [et, kup_at, x2, eD, kb_1 rfl]
  · rw [et, kup_j (by omega), kup_j (by omega), x3, eD]; dsimp only; rw [kup_x (by omega)]
  · rw [et, kup_j (by omega), kup_j (by omega), x4, eD]; dsimp only; rw [kup_x (by omega)]
  · rw [et, kup_j (by omega), kup_j (by omega), x5, eD]; dsimp only; rw [kup_x (by omega)]
  · rw [et, kup_j (by omega), kup_j (by omega)]; exact x6
  · rw [et, kup_j (by omega), kup_at, eD]; dsimp only; rw [kup_at]
  · rw [et, kup_o (by omega), kup_o (by omega)]
theorem N_lPo_miss0 {σ τ : Kmem} {x c s k : Int} (p : N_lCx σ τ x c s k) (n : (τ 1 (150 + 6 * k)) < 21) (eD : sDo τ k = (0, τ)) {t : Kmem} (et : t = kup σ x 2 (σ x 2 + 1)) : N_lPo σ τ x c s k (k + 1) t := by
  refine N_lPo_miss (d := τ 0 35) p n (by rw [kup_id]; exact eD) ?_
  rw [et, ← p.2.2.2.2.1.2.2.2.2.2.2.2, kup_id]
theorem N_lC_hours {G : Kg} {σ τ : Kmem} {x c s k : Int} (p : N_lCx σ τ x c s k) (o15 : ((τ 1) (150 + 6 * k)) = 15) : rI (τ 1 7 + τ 1 (150 + 6 * k + 1)) ∧ (τ 1 7 + τ 1 (150 + 6 * k + 1) ≤ 9999 → ∀ m6 : Kmem, m6 = kup σ x 3 (σ x 3 + τ 1 (150 + 6 * k + 1)) → Run G WX M_X0_goBy 4 0 0 [vA G c, vA G 58, vI (τ 1 (150 + 6 * k + 1))] m6 (fun r9 s9 => Run G WX M_J6_bitCount_0f7a4 0 0 0 [vI r9] s9 (fun r10 s10 => ∀ m12 : Kmem, m12 = kup s10 x 5 (m6 x 5 + r10) → N_lPo σ τ x c s k (k + 1) m12))) ∧ (9999 < τ 1 7 + τ 1 (150 + 6 * k + 1) → ∀ m14 : Kmem, m14 = kup σ x 2 (σ x 2 + 1) → N_lPo σ τ x c s k (k + 1) m14) := by
  have p' := p
  obtain ⟨⟨hx, hc, hs⟩, h, hk, ⟨kk, pr⟩, ⟨x0, x1, x2, x3, x4, x5, x6, x7⟩, R⟩ := p'
  have lx := isLf_r hx
  have lc := isC_q hc
  have w := h.1.1
  have k0 := h.2.1
  have h7 := h.1.2.2
  have w1 := wf_h w
  have l2 := (h.1.2.1.2.1 k k0.1 hk).2.1 o15
  have eD : sDo τ k = (kb (τ 1 7 + τ 1 (150 + 6 * k + 1) ≤ 9999), kif (τ 1 7 + τ 1 (150 + 6 * k + 1) ≤ 9999) (kup (kup (kst τ 1 (sHours (τ 1) (τ 1 (150 + 6 * k + 1)).toNat)) 19 3 (τ 19 3 + sBits (τ 1) (τ 1 (150 + 6 * k + 1)).toNat)) 19 1 (τ 19 1 + τ 1 (150 + 6 * k + 1))) τ) := kif_t o15
  generalize τ 1 (150 + 6 * k + 1) = n at *
  refine ⟨by omega, fun le m6 e6 => ?_, fun gt m14 e14 => N_lPo_miss0 p (by omega) (by rw [eD, kif_f (by omega), kb_0 (by omega)]) e14⟩
  rw [kif_t le] at eD
  have c6 : kcm m6 c (τ 1) := by rw [e6]; exact kcm_kfm w kk kfm_at (fun y a b z => by omega)
  refine Run.mono (N_X0_goBy hc ⟨w, c6, by omega, by omega⟩) (fun r9 s9 z => ?_)
  obtain ⟨rfl, f9, k9⟩ := z
  have hu := sHSet_u w n.toNat (by omega)
  have h64 : kset (fun j => sHours (τ 1) n.toNat (34 + 9 * j + 8) = 1 ∧ τ 1 (34 + 9 * j + 8) ≠ 1) (τ 1 2).toNat < 64 := Nat.lt_of_lt_of_le (kset_lt _) (Nat.pow_le_pow_right (n := 2) (by decide) (by omega : (τ 1 2).toNat ≤ 6))
  refine Run.mono (P_J6_bitCount_0f7a4 (by rw [hu.1]; omega)) (fun r10 s10 z => ?_)
  rw [z.1, z.2, hu.2.1]
  intro m12 e12
  have ok := sHours_ok w n.toNat (by omega)
  clear z hu h64 l2 w1 h7
  have nx9 : ∀ y, y = x ∨ y = x + 1 → s9 y = m6 y := fun y hy => f9 y (fun z => by
    rcases z with z | z
    · have z1 := z.1; have z2 := z.2; omega
    · omega)
  have m6x : ∀ j, j ≠ 3 → m6 x j = σ x j := fun j hj => by rw [e6]; exact kup_j hj
  have m63 : m6 x 3 = σ x 3 + n := by rw [e6]; exact kup_at
  have nx0 := nx9 x (Or.inl rfl)
  have nx1 := nx9 (x + 1) (Or.inr rfl)
  have fr : kfm (lfA c x) m12 σ := by
    rw [e12]
    refine lfx.trans ((f9.wide (fun y z => ?_)).trans (by rw [e6]; exact lfx))
    rcases z with z | z
    · exact Or.inl z
    · exact Or.inr (Or.inl z)
  have k12 : kcm m12 c (sHours (τ 1) n.toNat) := by rw [e12]; exact kcm_kfm ok.1 k9 kfm_at (fun y a b z => by omega)
  refine N_lPo_mk p (by omega) (by omega) fr ?_ ?_ ?_ ?_ ?_ ?_ ?_ ?_ ?_ (fun e => by omega) (fun _ => ?_) (Or.inl rfl) (lNx h hk (by omega))
  · rw [eD]; dsimp only
    rw [kup_o (by decide), kup_o (by decide), kst_eq]; exact k12
  · rw [e12, kup_j (by decide), nx0, m6x 0 (by decide)]; exact x0
  · rw [e12, kup_j (by decide), nx0, m6x 1 (by decide)]; exact x1
  · rw [e12, kup_j (by decide), nx0, m6x 2 (by decide), x2, eD]; dsimp only
    rw [kb_ne, kb_0 (fun n => n le)]; omega
  · rw [e12, kup_j (by decide), nx0, m63, x3, eD]; dsimp only
    rw [kup_at]
  · rw [e12, kup_j (by decide), nx0, m6x 4 (by decide), x4, eD]; dsimp only
    rw [kup_j (by decide), kup_j (by decide), kst_ne (by decide)]
  · rw [e12, kup_at, m6x 5 (by decide), x5, eD]; dsimp only
    rw [kup_j (by decide), kup_at]
  · rw [e12, kup_j (by decide), nx0, m6x 6 (by decide)]; exact x6
  · rw [e12, kup_j (by decide), nx0, m6x 7 (by decide), x7, eD]; dsimp only
    rw [kup_x (by decide), kup_x (by decide), kst_ne (by decide)]
  · rw [e12, kup_o (by omega), nx1, e6, kup_o (by omega)]
theorem N_lC_walk {G : Kg} {σ σ' τ : Kmem} {x c s k S d : Int} (p : N_lCx σ τ x c s k) (es : σ' = kup σ x 7 d) (hS : 0 ≤ S ∧ S < 5) (kt : sKt (τ 1) (τ 1 (150 + 6 * k + 1))) (n21 : ((τ 1) (150 + 6 * k)) < 21)
    (eD : sDo τ k = (kb (sMay (τ 1) (τ 1 (150 + 6 * k + 1)) S), kif (sMay (τ 1) (τ 1 (150 + 6 * k + 1)) S) (kup (kst (kup τ 0 35 d) 1 (sWalk (τ 1) (τ 1 (150 + 6 * k + 1)) S)) 19 2 (τ 19 2 + 1)) (kup τ 0 35 d))) :
    Run G WX M_X4_stepOrMiss 3 0 0 [vA G x, vA G c, vI (τ 1 (150 + 6 * k + 1)), vI S] σ' (fun _ t => N_lPo σ τ x c s k (k + 1) t) := by
  have p' := p
  obtain ⟨⟨hx, hc, hs⟩, h, hk, ⟨kk, pr⟩, ⟨x0, x1, x2, x3, x4, x5, x6, x7⟩, R⟩ := p'
  have lx := isLf_r hx
  have lc := isC_q hc
  have w := h.1.1
  have cd : kcm σ' c (τ 1) := by rw [es]; exact kcm_kfm w kk kfm_at (fun y a b z => by omega)
  refine Run.mono (N_X4_stepOrMiss hx hc ⟨w, cd, kt, hS⟩) (fun y t z => ?_)
  obtain ⟨-, z1, z2⟩ := z
  have sx : ∀ j, j ≠ 7 → σ' x j = σ x j := fun j hj => by rw [es]; exact kup_j hj
  have s7 : σ' x 7 = d := by rw [es]; exact kup_at
  have s1 : σ' (x + 1) = σ (x + 1) := by rw [es]; exact kup_o (by omega)
  by_cases m : sMay (τ 1) (τ 1 (150 + 6 * k + 1)) S
  · obtain ⟨u, fu, ku', rfl⟩ := z1 m
    rw [kif_t m, kb_1 m] at eD
    have ok := sWalk_ok w kt m
    have fr : kfm (lfA c x) (kup u x 4 (σ' x 4 + 1)) σ := lfx.trans ((fu.wide (fun y z => Or.inl z)).trans (by rw [es]; exact lfx))
    have ux : ∀ y, y = x ∨ y = x + 1 → u y = σ' y := fun y hy => fu y (fun z => by have z1 := z.1; have z2 := z.2; omega)
    have u0 := ux x (Or.inl rfl)
    have u1 := ux (x + 1) (Or.inr rfl)
    have kk4 : kcm (kup u x 4 (σ' x 4 + 1)) c (sWalk (τ 1) (τ 1 (150 + 6 * k + 1)) S) := kcm_kfm ok.1 ku' kfm_at (fun y a b z => by omega)
    refine N_lPo_mk p (by omega) (by omega) fr ?_ ?_ ?_ ?_ ?_ ?_ ?_ ?_ ?_ (fun e => by omega) (fun _ => ?_) (Or.inl rfl) (lNx h hk (by omega))
    · rw [eD]; dsimp only
      rw [kup_o (by decide), kst_eq]; exact kk4
    · rw [kup_j (by decide), u0, sx 0 (by decide)]; exact x0
    · rw [kup_j (by decide), u0, sx 1 (by decide)]; exact x1
    · rw [kup_j (by decide), u0, sx 2 (by decide), x2, eD]; dsimp only
      rw [kb_0 (by decide)]; omega
    · rw [kup_j (by decide), u0, sx 3 (by decide), x3, eD]; dsimp only
      rw [kup_j (by decide), kst_ne (by decide), kup_x (by decide)]
    · rw [kup_at, sx 4 (by decide), x4, eD]; dsimp only
      rw [kup_at]
    · rw [kup_j (by decide), u0, sx 5 (by decide), x5, eD]; dsimp only
      rw [kup_j (by decide), kst_ne (by decide), kup_x (by decide)]
    · rw [kup_j (by decide), u0, sx 6 (by decide)]; exact x6
    · rw [kup_j (by decide), u0, s7, eD]; dsimp only
      rw [kup_x (by decide), kst_ne (by decide), kup_at]
    · rw [kup_o (by omega), u1, s1]
  · rw [kif_f m, kb_0 m] at eD
    refine N_lPo_miss p n21 eD ?_
    rw [z2 m, es, kup_j (by decide)]
theorem N_lC_cut {G : Kg} {σ τ : Kmem} {x c s k b : Int} (p : N_lCx σ τ x c s k) (hb : b = 0 ∨ b = 1) (kt : sKt (τ 1) (τ 1 (150 + 6 * k + 1))) (n21 : ((τ 1) (150 + 6 * k)) < 21)
    (eD : sDo τ k = (kb (τ 1 (34 + 9 * τ 1 (150 + 6 * k + 1) + 8) ≠ b), kst τ 1 (ku (τ 1) (34 + 9 * τ 1 (150 + 6 * k + 1) + 8) b))) :
    Run G WX M_X4_putCut 0 0 0 [vA G x, vA G (c + 6 + τ 1 (150 + 6 * k + 1)), vI b] σ (fun _ t => N_lPo σ τ x c s k (k + 1) t) := by
  have p' := p
  obtain ⟨⟨hx, hc, hs⟩, h, hk, ⟨kk, pr⟩, ⟨x0, x1, x2, x3, x4, x5, x6, x7⟩, R⟩ := p'
  have lx := isLf_r hx
  have lc := isC_q hc
  have w := h.1.1
  have w2 := (wf_h w).2.1
  have kt1 := kt.1
  have kt2 := kt.2
  refine Run.mono (P_X4_putCut hx hc ⟨w, kk.k, kt, hb⟩) (fun y t z => ?_)
  obtain ⟨-, rfl⟩ := z
  have c1 : kcm (kup σ x 2 (σ x 2 + kb (τ 1 (34 + 9 * τ 1 (150 + 6 * k + 1) + 8) = b))) c (τ 1) := kcm_kfm w kk kfm_at (fun y a b z => by omega)
  have c2 := kcm_cut (k := τ 1 (150 + 6 * k + 1)) (x := b) w c1 kt
  have fr : kfm (lfA c x) (kup (kup σ x 2 (σ x 2 + kb (τ 1 (34 + 9 * τ 1 (150 + 6 * k + 1) + 8) = b))) (c + 6 + τ 1 (150 + 6 * k + 1)) 9 b) σ := (kfm_kup (Or.inl ⟨by omega, by omega⟩)).trans lfx
  have nx : x ≠ c + 6 + τ 1 (150 + 6 * k + 1) ∧ x + 1 ≠ c + 6 + τ 1 (150 + 6 * k + 1) := by omega
  generalize c + 6 + τ 1 (150 + 6 * k + 1) = C at *
  refine N_lPo_mk p (by omega) (by omega) fr ?_ ?_ ?_ ?_ ?_ ?_ ?_ ?_ ?_ (fun e => by omega) (fun _ => ?_) (Or.inl rfl) (lNx h hk (by omega))
  · rw [eD]; dsimp only; rw [kst_eq]; exact c2
  · rw [kup_x nx.1, kup_j (by decide)]; exact x0
  · rw [kup_x nx.1, kup_j (by decide)]; exact x1
  · rw [kup_x nx.1, kup_at, x2, eD]; dsimp only
    rw [kb_ne]
    exact congrArg (fun z => τ 19 0 + z) (kb_iff ⟨fun y n => n y, fun y => Classical.byContradiction y⟩)
  · rw [kup_x nx.1, kup_j (by decide), x3, eD]; dsimp only; rw [kst_ne (by decide)]
  · rw [kup_x nx.1, kup_j (by decide), x4, eD]; dsimp only; rw [kst_ne (by decide)]
  · rw [kup_x nx.1, kup_j (by decide), x5, eD]; dsimp only; rw [kst_ne (by decide)]
  · rw [kup_x nx.1, kup_j (by decide)]; exact x6
  · rw [kup_x nx.1, kup_j (by decide), x7, eD]; dsimp only; rw [kst_ne (by decide)]
  · rw [kup_o nx.2, kup_o (by omega)]
theorem N_lPo_no {σ τ t : Kmem} {x c s k nx : Int} (p : N_lCx σ τ x c s k) (n : ((τ 1) (150 + 6 * k)) ≠ 23) (h22 : ((τ 1) (150 + 6 * k)) ≠ 22) (n21 : ((τ 1) (150 + 6 * k)) ≠ 21) (eD : sDo τ k = (1, τ)) (ft : kfm sky1 t σ) (hn : nx = k + 1 ∨ (2024 ≤ ((τ 1) (150 + 6 * k)) ∧ nx = ((τ 1) (150 + 6 * k + 4)) + 1)) (hy : nx = sNxt (sAft τ k 1) k) : N_lPo σ τ x c s k nx t := by
  have p' := p
  obtain ⟨⟨hx, hc, hs⟩, h, hk, ⟨kk, pr⟩, ⟨x0, x1, x2, x3, x4, x5, x6, x7⟩, R⟩ := p'
  have lx := isLf_r hx
  have lc := isC_q hc
  have w := h.1.1
  have fr : kfm (lfA c x) t σ := ft.wide (fun y z => Or.inr (Or.inl (by omega)))
  have tx : t x = σ x := ft x (fun z => by omega)
  have t1 : t (x + 1) = σ (x + 1) := ft _ (fun z => by omega)
  refine N_lPo_mk p n h22 fr ?_ ?_ ?_ ?_ ?_ ?_ ?_ ?_ ?_ (fun e => absurd e n21) (fun _ => t1) hn hy
  · rw [eD]; exact kcm_kfm w kk ft (fun y a b z => by omega)
  · rw [tx]; exact x0
  · rw [tx]; exact x1
  · rw [tx, x2, eD]; dsimp only; rw [kb_0 (by decide)]; omega
  · rw [tx, x3, eD]
  · rw [tx, x4, eD]
  · rw [tx, x5, eD]
  · rw [tx]; exact x6
  · rw [tx, x7, eD]
theorem N_X4_behindStep {G : Kg} {σ τ : Kmem} {x s k c : Int} (p : N_lCx σ τ x c s k) : Run G WX M_X4_behindStep 5 0 0 [vA G x, vA G s, vI k, vA G c, vA G 58] σ (fun y t => N_lPo σ τ x c s k y t) := by
  have p' := p
  obtain ⟨⟨hx, hc, hs⟩, h, hk, ⟨kk, pr⟩, ⟨x0, x1, x2, x3, x4, x5, x6, x7⟩, R⟩ := p'
  have k0 := h.2.1
  have w := h.1.1
  have pw := h.1.2.1
  have p8 := pw.1
  have kh := kcm_h kk
  have ln := pw.2.1 k k0.1 hk
  have n22 : ((τ 1) (150 + 6 * k)) ≠ 22 := fun e => h.2.2.1 ⟨hk, e⟩
  have pl := pr.2.2.2 k k0.1 hk
  obtain ⟨l1, l2, l3, l4, l5, l6, l7, l8, l9⟩ := ln
  obtain ⟨q1, q2, q3, q4, q5, q6⟩ := pl
  have kd := kKd_of l1 n22
  refine S_X4_behindStep hx hs hc ?_
  rw [q1]
  refine ⟨by omega, by omega, by omega, kd.1, fun e => ?_, fun e => ?_, fun e => ?_, fun e => ?_, fun e => ?_, fun e => ?_, fun e => ?_, fun e => ?_⟩
  · have o := kd.2.1 e
    rw [q4 (Or.inl o), kh.2.1]
    exact N_lC_hours p o
  · have o := kd.2.2.1 e
    have l4 := l4 o
    rw [q3 (by omega), q5 (Or.inl o)]
    refine Run.mono (N_lC_walk (d := σ x 7) p kup_id.symm (by omega) (l3 (by omega)) (by omega) ?_) (fun y t z => z)
    rw [x7, kup_id]
    unfold sDo; rw [kif_f (by omega), kif_t o]
  · have o := kd.2.2.2.1 e
    have kt := l3 (by omega)
    have w2 := (wf_h w).2.1
    rw [q3 (by omega)]
    refine ⟨⟨kt.1, by have := kt.2; omega⟩, Run.mono (N_lC_cut p (Or.inr rfl) kt (by omega) ?_) (fun y t z => z)⟩
    unfold sDo; rw [kif_f (by omega), kif_f (by omega), kif_t o]
  · have o := kd.2.2.2.2.1 e
    have kt := l3 (by omega)
    have w2 := (wf_h w).2.1
    rw [q3 (by omega)]
    refine ⟨⟨kt.1, by have := kt.2; omega⟩, Run.mono (N_lC_cut p (Or.inl rfl) kt (by omega) ?_) (fun y t z => z)⟩
    unfold sDo; rw [kif_f (by omega), kif_f (by omega), kif_f (by omega), kif_t o]
  · have o := kd.2.2.2.2.2.1 e
    have hd := h.2.2.2.1
    rw [q3 (by omega), kup_at, x7]
    refine ⟨⟨by omega, by omega⟩, ⟨by omega, by omega⟩, ⟨by omega, by omega⟩, Run.mono (N_lC_walk (d := dr1 (τ 0 35)) p rfl (by omega) (l3 (by omega)) (by omega) ?_) (fun y t z => z)⟩
    unfold sDo; rw [kif_f (by omega), kif_f (by omega), kif_f (by omega), kif_f (by omega), kif_t o]
  · have o := kd.2.2.2.2.2.2.1 e
    have eD := sDo_1 (τ := τ) (k := k) (by omega)
    have eA : sAft τ k 1 = τ 1 := by rw [(sAft_ok h hk).2.2.2.2.2.1, eD]
    refine Run.mono (P_X4_holds hx hs hc ⟨w, kk.k, pw, pr, ⟨k0.1, hk⟩, o⟩) (fun y t z => ?_)
    obtain ⟨rfl, ft⟩ := z
    have ls := isS_q hs
    have ts : t (s + 5) k = ((τ 1) (150 + 6 * k + 4)) := by rw [ft (s + 5) (fun z => by omega)]; exact q6 (by omega)
    refine ⟨kb_r _, fun n0 => ⟨by omega, ?_⟩, fun n1 => ?_⟩
    · rw [ts]
      refine N_lPo_no p (by omega) (by omega) (by omega) eD ft (Or.inr ⟨o, rfl⟩) ?_
      rw [eA]; exact (kif_t ⟨by omega, kb_f n0⟩).symm
    · refine N_lPo_no p (by omega) (by omega) (by omega) eD ft (Or.inl rfl) ?_
      rw [eA]; exact (kif_f (fun y => y.2 (kb_t n1))).symm
  · have o := kd.2.2.2.2.2.2.2.1 e
    have eD := sDo_1 (τ := τ) (k := k) (by omega)
    have lx := isLf_r hx
    have lc := isC_q hc
    rw [q4 (Or.inr o)]
    refine ⟨by omega, fun m36 e36 => ?_⟩
    have fr : kfm (lfA c x) m36 σ := by rw [e36]; exact kfm_kup (Or.inr (Or.inr (Or.inr rfl)))
    have mx : m36 x = σ x := by rw [e36]; exact kup_o (by omega)
    refine N_lPo_mk p (by omega) (by omega) fr ?_ ?_ ?_ ?_ ?_ ?_ ?_ ?_ ?_ (fun _ => ?_) (fun n => absurd o n) (Or.inl rfl) (lNx h hk (by omega))
    · rw [eD, e36]; exact kcm_kfm w kk kfm_at (fun y a b z => by omega)
    · rw [mx]; exact x0
    · rw [mx]; exact x1
    · rw [mx, x2, eD]; dsimp only; rw [kb_0 (by decide)]; omega
    · rw [mx, x3, eD]
    · rw [mx, x4, eD]
    · rw [mx, x5, eD]
    · rw [mx]; exact x6
    · rw [mx, x7, eD]
    · rw [e36, kup_k, kst_eq]
  · have o := kd.2.2.2.2.2.2.2.2.1 e
    exact ⟨kfm.refl, fun _ => ⟨pr.2.2.1 (by omega), rfl⟩, fun n => absurd o n⟩

def N_lEnd (σ : Kmem) (x c s : Int) (τ : Kmem) : Prop := (kcm σ c (τ 1) ∧ kpr σ s (τ 1)) ∧ (σ x 0 = 1 ∧ σ x 1 = τ 0 36 ∧ σ x 2 = τ 19 0 ∧ σ x 3 = τ 19 1 ∧ σ x 4 = τ 19 2 ∧ σ x 5 = τ 19 3 ∧ σ x 6 = τ 19 4)
theorem N_run_loop {G : Kg} {x s c : Int} {Q : Int → Kmem → Prop} (hx : isLf x) (hs : isS s) (hc : isC c) : ∀ (n : Nat) (k : Int) (τ σ : Kmem) (i : Int), sLv τ k → τ 0 36 = 300 - n → n ≤ 300 → 0 ≤ i → i + 210 * (n + 1) ≤ 900000 → (N_lRel σ x c s τ k ∧ σ s 0 = 1) → (∀ σ', kfm (lfA c x) σ' σ → N_lEnd σ' x c s (sRun n k τ) → Q 0 σ') → E_X4_run_47 G x s c k i σ Q := by
  have lx := isLf_r hx
  have lc := isC_q hc
  have ls := isS_q hs
  have cs := isCS hc hs
  intro n
  induction n with
  | zero =>
    intro k τ σ i h h36 hn hi0 hi hL hQ
    obtain ⟨L, pr1⟩ := hL
    have L' := L
    obtain ⟨⟨kk, pr⟩, ⟨x0, x1, x2, x3, x4, x5, x6, x7⟩, R⟩ := L'
    have p8 := h.1.2.1.1
    have k0 := h.2.1
    have v8 : τ 1 8 ≠ -1 := by omega
    have l2 := pr.2.2.1 v8
    refine S_X4_run_47 (l4 := 0) hx hs hc ⟨by omega, fun q => by omega, fun _ => ⟨by omega, by omega, fun q => ?_, fun q => ?_⟩⟩
    · have e : sRun 0 k τ = τ := kif_t (by omega)
      rw [e] at hQ
      exact hQ σ kfm.refl ⟨⟨kk, pr⟩, x0, x1, x2, x3, x4, x5, x6⟩
    · have ln := h.1.2.1.2.1 k k0.1 (by omega)
      have n22 : ((τ 1) (150 + 6 * k)) ≠ 22 := fun e => h.2.2.1 ⟨by omega, e⟩
      have kd := kKd_of ln.1 n22
      have pl := pr.2.2.2 k k0.1 (by omega)
      have e : sRun 0 k τ = kup τ 19 4 1 := kif_f (by omega)
      rw [e] at hQ
      refine ⟨by omega, by rw [pl.1]; exact kd.1, fun _ => ⟨by omega, fun lt => by omega, fun _ m27 e27 => ?_⟩, fun n9 => absurd (pl.1.symm.trans n9) kd.2.2.2.2.2.2.2.2.2⟩
      have f27 : kfm (fun z => z = x) m27 σ := by rw [e27]; exact kfm_at
      refine hQ m27 (f27.wide (fun y z => Or.inr (Or.inr (Or.inl z)))) ⟨⟨?_, ?_⟩, ?_, ?_, ?_, ?_, ?_, ?_, ?_⟩
      · rw [kup_o (by omega)]; exact kcm_kfm h.1.1 kk f27 (fun y a b z => by omega)
      · rw [kup_o (by omega)]; exact kpr_kfm pr f27 (fun y a b z => by omega)
      · rw [e27, kup_j (by omega)]; exact x0
      · rw [e27, kup_j (by omega), kup_x (by omega)]; exact x1
      · rw [e27, kup_j (by omega), kup_j (by omega)]; exact x2
      · rw [e27, kup_j (by omega), kup_j (by omega)]; exact x3
      · rw [e27, kup_j (by omega), kup_j (by omega)]; exact x4
      · rw [e27, kup_j (by omega), kup_j (by omega)]; exact x5
      · rw [e27, kup_at, kup_at]
  | succ n ih =>
    intro k τ σ i h h36 hn hi0 hi hL hQ
    obtain ⟨L, pr1⟩ := hL
    have L' := L
    obtain ⟨⟨kk, pr⟩, ⟨x0, x1, x2, x3, x4, x5, x6, x7⟩, R⟩ := L'
    have p8 := h.1.2.1.1
    have k0 := h.2.1
    have v8 : τ 1 8 ≠ -1 := by omega
    have l2 := pr.2.2.1 v8
    refine S_X4_run_47 (l4 := 0) hx hs hc ⟨by omega, fun q => by omega, fun _ => ⟨by omega, by omega, fun q => ?_, fun q => ?_⟩⟩
    · have e : sRun (n + 1) k τ = τ := kif_t (by omega)
      rw [e] at hQ
      exact hQ σ kfm.refl ⟨⟨kk, pr⟩, x0, x1, x2, x3, x4, x5, x6⟩
    have hk : k < τ 1 8 := by omega
    have ln := h.1.2.1.2.1 k k0.1 hk
    have n22 : ((τ 1) (150 + 6 * k)) ≠ 22 := fun e => h.2.2.1 ⟨by omega, e⟩
    have kd := kKd_of ln.1 n22
    have pl := pr.2.2.2 k k0.1 (by omega)
    refine ⟨by omega, by rw [pl.1]; exact kd.1, fun _ => ⟨by omega, fun lt m23 e23 => ?_, fun ge => by omega⟩, fun n9 => absurd (pl.1.symm.trans n9) kd.2.2.2.2.2.2.2.2.2⟩
    have f23 : kfm (fun z => z = x) m23 σ := by rw [e23]; exact kfm_at
    have ht := sTick_lv h
    have t1 : sTick τ 1 = τ 1 := kup_o (by omega)
    have tj : ∀ y, y ≠ 0 → sTick τ y = τ y := fun y hy => kup_o hy
    have t36 : sTick τ 0 36 = τ 0 36 + 1 := kup_at
    have L23 : N_lRel m23 x c s (sTick τ) k := by
      refine ⟨⟨by rw [t1]; exact kcm_kfm h.1.1 kk f23 (fun y a b z => by omega), by rw [t1]; exact kpr_kfm pr f23 (fun y a b z => by omega)⟩, ⟨?_, ?_, ?_, ?_, ?_, ?_, ?_, ?_⟩, ?_⟩
      · rw [e23, kup_j (by omega)]; exact x0
      · rw [e23, kup_at, t36, x1]
      · rw [e23, kup_j (by omega), tj 19 (by omega)]; exact x2
      · rw [e23, kup_j (by omega), tj 19 (by omega)]; exact x3
      · rw [e23, kup_j (by omega), tj 19 (by omega)]; exact x4
      · rw [e23, kup_j (by omega), tj 19 (by omega)]; exact x5
      · rw [e23, kup_j (by omega), tj 19 (by omega)]; exact x6
      · rw [e23, kup_j (by omega), x7]; exact (kup_j (by omega)).symm
      · rw [t1, tj 18 (by omega), f23 (x + 1) (by omega)]; exact R
    have qt : k < sTick τ 1 8 := by rw [t1]; exact hk
    have e : sRun (n + 1) k τ = kif (((τ 1) (150 + 6 * k)) = 23) (sTick τ) (sRun n (sAll (sTick τ) k).1 (kst (sAft (sTick τ) k) 18 (sAll (sTick τ) k).2)) := kif_f (by omega)
    rw [e] at hQ
    refine Run.mono (N_X4_behindStep (x := x) (s := s) (c := c) ⟨⟨hx, hc, hs⟩, ht, qt, L23⟩) (fun y t z => ?_)
    obtain ⟨ft, z23, zn⟩ := z
    rw [t1] at z23 zn
    have fa : kfm (lfA c x) t σ := ft.trans (f23.wide (fun y z => Or.inr (Or.inr (Or.inl z))))
    by_cases o23 : ((τ 1) (150 + 6 * k)) = 23
    · obtain ⟨rfl, rfl⟩ := z23 o23
      rw [kif_t o23] at hQ
      have l2' : t s 2 = τ 1 8 := by rw [f23 s (by omega)]; exact l2
      refine S_X4_run_47 (l4 := 0) hx hs hc ⟨by omega, fun q => by omega, fun _ => ⟨by omega, by omega, fun q => ?_, fun q => by omega⟩⟩
      exact hQ t fa ⟨L23.1, L23.2.1.1, L23.2.1.2.1, L23.2.1.2.2.1, L23.2.1.2.2.2.1, L23.2.1.2.2.2.2.1, L23.2.1.2.2.2.2.2.1, L23.2.1.2.2.2.2.2.2.1⟩
    · rw [kif_f o23] at hQ
      obtain ⟨rfl, Lt⟩ := zn o23
      have oka := sAft_ok ht qt
      have okn := sNxt_ok oka.1.2.1 ⟨k0.1, by rw [oka.2.1.2.2.2.1.1]; exact qt⟩
      have mu := sMu_r (a := (sNxt (sAft (sTick τ) k 1) k, sAft (sTick τ) k 18)) oka.1.2.1 okn.1 oka.2.2.2.1
      have ts : t s 0 = 1 := by
        rw [ft s (fun z => by rcases z with z | z | z | z; have z1 := z.1; have z2 := z.2; omega; omega; omega; omega), f23 s (by omega)]; exact pr1
      refine run_ends hx hs hc oka.1.2.1 200 (sNxt (sAft (sTick τ) k 1) k) (sAft (sTick τ) k 18) t (i + 1) (by omega) okn oka.2.2.2.1 (by omega) (by omega) ⟨Lt.1.2, ts⟩ Lt.2.2 (fun σ' i' a b f R' => ?_)
      have ok := sAll_ok ht qt
      have fx : σ' x = t x := f x (by omega)
      refine ih (sAll (sTick τ) k).1 (kst (sAft (sTick τ) k) 18 (sAll (sTick τ) k).2) σ' i' ok (by rw [kst_ne (by omega), oka.2.2.2.2.1, t36]; omega) (by omega) a (by omega) ⟨⟨⟨?_, ?_⟩, ?_, ?_⟩, ?_⟩ (fun σ2 f2 h2 => hQ σ2 (f2.trans ((f.wide (fun y z => Or.inr (Or.inr (Or.inr z)))).trans fa)) h2)
      · rw [kst_ne (by omega)]; exact kcm_kfm oka.1.1 Lt.1.1 f (fun y a b z => by omega)
      · rw [kst_ne (by omega)]; exact kpr_kfm Lt.1.2 f (fun y a b z => by omega)
      · rw [fx, kst_ne (by omega), kst_ne (by omega)]; exact Lt.2.1
      · rw [kst_ne (by omega), kst_eq]; exact R'
      · rw [f s (by omega)]; exact ts
theorem N_X4_run {G : Kg} {σ M : Kmem} {x s c seed : Int} (hx : isLf x) (hs : isS s) (hc : isC c) (p : (wf (M 1) ∧ pwf (M 1) ∧ M 1 7 ≤ 9999) ∧ 0 ≤ M 1 8 ∧ (0 ≤ seed ∧ seed ≤ 65535) ∧ lpR (M 18) ∧ kcm σ c (M 1) ∧ kpr σ s (M 1)) : Run G WX M_X4_run 6 0 0 [vA G x, vA G s, vA G c, vA G 58, vI seed] σ (fun y t => y = 0 ∧ kfm (lfA c x) t σ ∧ N_lEnd t x c s (sRun 300 0 (sBeg M seed))) := by
  obtain ⟨h1, h8, hsd, hl, kk, pr⟩ := p
  have bg := sBeg_lv ⟨h1, h8, hsd, hl⟩
  have lx := isLf_r hx
  have lc := isC_q hc
  have ls := isS_q hs
  have pr1 : σ s 0 = 1 := pr.1.1.resolve_left (fun e => by have := pr.2.1.1 e; omega)
  refine S_X4_run hx hs hc (fun m1 e1 m3 e3 m5 e5 m7 e7 m9 e9 m11 e11 m13 e13 m15 e15 => ?_)
  have f : kfm (fun z => z = x) m15 σ := by
    rw [e15, e13, e11, e9, e7, e5, e3, e1]
    exact kfm_at.trans (kfm_at.trans (kfm_at.trans (kfm_at.trans (kfm_at.trans (kfm_at.trans (kfm_at.trans kfm_at))))))
  have x0 : m15 x 0 = 1 := by rw [e15, kup_j (by omega), e13, kup_j (by omega), e11, kup_j (by omega), e9, kup_j (by omega), e7, kup_j (by omega), e5, kup_j (by omega), e3, kup_j (by omega), e1, kup_at]
  have x1 : m15 x 1 = 0 := by rw [e15, kup_j (by omega), e13, kup_j (by omega), e11, kup_j (by omega), e9, kup_j (by omega), e7, kup_j (by omega), e5, kup_j (by omega), e3, kup_at]
  have x2 : m15 x 2 = 0 := by rw [e15, kup_j (by omega), e13, kup_j (by omega), e11, kup_j (by omega), e9, kup_j (by omega), e7, kup_j (by omega), e5, kup_at]
  have x3 : m15 x 3 = 0 := by rw [e15, kup_j (by omega), e13, kup_j (by omega), e11, kup_j (by omega), e9, kup_j (by omega), e7, kup_at]
  have x4 : m15 x 4 = 0 := by rw [e15, kup_j (by omega), e13, kup_j (by omega), e11, kup_j (by omega), e9, kup_at]
  have x5 : m15 x 5 = 0 := by rw [e15, kup_j (by omega), e13, kup_j (by omega), e11, kup_at]
  have x6 : m15 x 6 = 0 := by rw [e15, kup_j (by omega), e13, kup_at]
  have x7 : m15 x 7 = seed := by rw [e15, kup_at]
  have b19 : ∀ j, 0 ≤ j → j < 5 → sBeg M seed 19 j = 0 := fun j a b => by
    unfold sBeg; rw [kst_eq]; exact if_pos ⟨a, b⟩
  have b35 : sBeg M seed 0 35 = seed := by unfold sBeg; rw [kst_ne (by omega), kup_j (by omega), kup_at]
  refine N_run_loop hx hs hc 300 0 (sBeg M seed) m15 0 bg.1 (by rw [bg.2.2]; rfl) (by omega) (by omega) (by omega) ⟨⟨⟨?_, ?_⟩, ⟨x0, ?_, ?_, ?_, ?_, ?_, ?_, ?_⟩, fun o a b => by omega⟩, ?_⟩ (fun σ' f' h' => ⟨rfl, f'.trans (f.wide (fun y z => Or.inr (Or.inr (Or.inl z)))), h'⟩)
  · rw [bg.2.1]; exact kcm_kfm h1.1 kk f (fun y a b z => by omega)
  · rw [bg.2.1]; exact kpr_kfm pr f (fun y a b z => by omega)
  · rw [x1, bg.2.2]
  · rw [x2, b19 0 (by omega) (by omega)]
  · rw [x3, b19 1 (by omega) (by omega)]
  · rw [x4, b19 2 (by omega) (by omega)]
  · rw [x5, b19 3 (by omega) (by omega)]
  · rw [x6, b19 4 (by omega) (by omega)]
  · rw [x7, b35]
  · rw [f s (by omega)]; exact pr1
