noncomputable def sEarn (v : Int → Int) (k n : Int) : Int → Int := ku v (34 + 9 * k + 5) (min 9999 (v (34 + 9 * k + 5) + n))
theorem sEarn_ok {v : Int → Int} {k n : Int} (w : wf v) (hk : sKt v k) (hn : 0 ≤ n ∧ n ≤ 1000) : wf (sEarn v k n) ∧ kfr (sEarn v k n) v := by
  have a := w.2.2.1 k hk.1 hk.2
  exact ⟨wf_purse w hk (by omega), kfr_ku (by have := hk.1; omega)⟩
theorem P_X12_earns {G : Kg} {σ : Kmem} {k n : Int} (p : wf (σ 1) ∧ sKt (σ 1) k ∧ (0 ≤ n ∧ n ≤ 1000)) : Run G WM M_X12_earns 2 0 0 [vA G 0, vI k, vI n] σ (fun r s => r = 0 ∧ s = kst σ 1 (sEarn (σ 1) k n)) := by
  obtain ⟨w, ⟨hk1, hk2⟩, hn⟩ := p
  have a := w.2.2.1 k hk1 hk2
  have w1 := wf_h w
  exact S_X12_earns ⟨by omega, by omega, by omega, rfl, kup_k⟩
def sNear (v : Int → Int) (t c r : Int) : Int → Int := if v (120 + 5 * t) = c then ku v (120 + 5 * t + 1) (v (120 + 5 * t + 1) + (if v (120 + 5 * t + 1) < r then 1 else -1)) else ku v (120 + 5 * t) (v (120 + 5 * t) + (if v (120 + 5 * t) < c then 1 else -1))
theorem P_X12_nears {G : Kg} {σ : Kmem} {t c r : Int} (p : wf (σ 1) ∧ (0 ≤ t ∧ t < σ 1 4) ∧ rI c ∧ rI r) : Run G WM M_X12_nears 1 0 0 [vA G 0, vI t, vI c, vI r] σ (fun x s => x = 0 ∧ s = kst σ 1 (sNear (σ 1) t c r)) := by
  obtain ⟨w, ⟨t1, t2⟩, hc, hr⟩ := p
  have w1 := wf_h w
  have a := w.2.2.2.2 t t1 t2
  refine S_X12_nears ⟨by omega, by omega, hc, fun h => ⟨by omega, by omega, by omega, hr, fun h2 => ⟨by omega, rfl, ?_⟩, fun h2 => ⟨by omega, rfl, ?_⟩⟩, fun h => ⟨by omega, by omega, fun h2 => ⟨by omega, rfl, ?_⟩, fun h2 => ⟨by omega, rfl, ?_⟩⟩⟩
  · rw [kup_k]; unfold sNear; rw [if_pos h, if_neg (by omega)]
  · rw [kup_k]; unfold sNear; rw [if_pos h, if_pos h2]
  · rw [kup_k]; unfold sNear; rw [if_neg h, if_neg (by omega)]
  · rw [kup_k]; unfold sNear; rw [if_neg h, if_pos h2]
abbrev sDist (v : Int → Int) (t c r : Int) : Int := kabs (v (120 + 5 * t) - c) + kabs (v (120 + 5 * t + 1) - r)
abbrev sNow (v : Int → Int) : Int := v 7 % 12
/-- the field that tenant t is drawn to, and how far it is -/
noncomputable def sNext (v : Int → Int) (t : Int) (D : Nat) : Int × Int × Int :=
  kfor (fun r a => kfor (fun c a => kif (sOwn v c r (v 7 % 12) = v (120 + 5 * t + 2) ∧ sDist v t c r < a.1) (sDist v t c r, c, r) a) (v 0).toNat a) D (1000000, 0, 0)
noncomputable def sGo (v : Int → Int) (t : Int) : Int → Int :=
  kif (sOwn v (v (120 + 5 * t)) (v (120 + 5 * t + 1)) (v 7 % 12) = v (120 + 5 * t + 2)) (sEarn (ku v (120 + 5 * t + 3) (v (120 + 5 * t + 3) + 1)) (v (120 + 5 * t + 2)) 1)
    (kif ((sNext v t (v 1).toNat).1 = 1000000) (ku v (120 + 5 * t + 4) (v (120 + 5 * t + 4) + 1)) (sNear v t (sNext v t (v 1).toNat).2.1 (sNext v t (v 1).toNat).2.2))
abbrev aOk (v : Int → Int) (t : Int) (a : Int × Int × Int) : Prop := (0 ≤ a.1 ∧ a.1 ≤ 1000000) ∧ (a.1 ≠ 1000000 → ((0 ≤ a.2.1 ∧ a.2.1 < v 0) ∧ 0 ≤ a.2.2 ∧ a.2.2 < v 1) ∧ sOwn v a.2.1 a.2.2 (v 7 % 12) = v (120 + 5 * t + 2))
theorem sDist_r {v : Int → Int} {t c r : Int} (w : wf v) (ht : 0 ≤ t ∧ t < v 4) (hc : 0 ≤ c ∧ c ≤ 100) (hr : 0 ≤ r ∧ r ≤ 100) : 0 ≤ sDist v t c r ∧ sDist v t c r ≤ 400 := by
  have w1 := wf_h w
  have a := w.2.2.2.2 t ht.1 ht.2
  have h1 := kabs_u (a := v (120 + 5 * t) - c) (b := 200) (by omega)
  have h2 := kabs_u (a := v (120 + 5 * t + 1) - r) (b := 200) (by omega)
  have h3 := kabs_r (a := v (120 + 5 * t) - c)
  have h4 := kabs_r (a := v (120 + 5 * t + 1) - r)
  unfold sDist; omega
theorem sNextC_ok {v : Int → Int} {t : Int} {r : Nat} (w : wf v) (ht : 0 ≤ t ∧ t < v 4) (hr : (r : Int) < v 1) {a : Int × Int × Int} (ha : aOk v t a) (C : Nat) (hC : (C : Int) ≤ v 0) :
    aOk v t (kfor (fun c a => kif (sOwn v c r (v 7 % 12) = v (120 + 5 * t + 2) ∧ sDist v t c r < a.1) (sDist v t c r, c, (r : Int)) a) C a) := by
  refine kfor_inv (P := fun _ a => aOk v t a) ha C (fun i a hi h => ?_)
  have w1 := wf_h w
  have d := sDist_r (c := i) (r := r) w ht (by omega) (by omega)
  by_cases q : (sOwn v i r (v 7 % 12) = v (120 + 5 * t + 2) ∧ sDist v t i r < a.1)
  · rw [kif_t q]; exact ⟨⟨d.1, by show sDist v t i r ≤ 1000000; omega⟩, fun _ => ⟨⟨⟨by show (0 : Int) ≤ i; omega, by show (i : Int) < v 0; omega⟩, by show (0 : Int) ≤ r; omega, hr⟩, q.1⟩⟩
  · rw [kif_f q]; exact h
theorem sNext_ok {v : Int → Int} {t : Int} (w : wf v) (ht : 0 ≤ t ∧ t < v 4) (D : Nat) (hD : (D : Int) ≤ v 1) : aOk v t (sNext v t D) := by
  have w1 := wf_h w
  refine kfor_inv (P := fun _ a => aOk v t a) ⟨⟨by show (0 : Int) ≤ 1000000; omega, by show (1000000 : Int) ≤ 1000000; omega⟩, fun h => absurd rfl h⟩ D (fun i a hi h => ?_)
  exact sNextC_ok w ht (by omega) h _ (by omega)
theorem P_X12_goes {G : Kg} {σ : Kmem} {t : Int} (p : wf (σ 1) ∧ (0 ≤ t ∧ t < σ 1 4)) : Run G WM M_X12_goes 7 0 0 [vA G 0, vI t] σ (fun x s => x = 0 ∧ s = kst σ 1 (sGo (σ 1) t)) := by
  obtain ⟨w, ht⟩ := p
  have w1 := wf_h w
  have a := w.2.2.2.2 t ht.1 ht.2
  have ht1 := ht.1
  have ht2 := ht.2
  have o := sOwn_r (v := σ 1) (c := σ 1 (120 + 5 * t)) (r := σ 1 (120 + 5 * t + 1)) (h := σ 1 7 % 12) w
  refine S_X12_goes ⟨by omega, by omega, by omega, by omega, ⟨w, by omega, by omega, by omega, by omega⟩, by omega, by omega, fun h => ?_, fun h => ?_⟩
  · refine kloop (E := fun r z => E_X12_goes_73 G t (120 + 5 * t) (σ 1 (120 + 5 * t + 2)) z.1 z.2.1 z.2.2 r σ (fun x s => x = 0 ∧ s = kst σ 1 (sGo (σ 1) t))) (fun r => sNext (σ 1) t r) (σ 1 1).toNat (fun r hr ih => S_X12_goes_73 ?_)
    have ok := sNext_ok (t := t) w ht r (by omega)
    refine ⟨by omega, by omega, fun q => ?_, fun q => ?_⟩
    · have e : r = (σ 1 1).toNat := by omega
      refine ⟨by omega, fun h2 => Run.mono (P_X12_nears ⟨w, ht, by omega, by omega⟩) (fun x s z => ⟨rfl, ?_⟩), fun h2 => ⟨by omega, by omega, rfl, ?_⟩⟩
      · rw [z.2]; unfold sGo; rw [kif_f h, ← e, kif_f h2]
      · rw [kup_k]; unfold sGo; rw [kif_f h, ← e, kif_t h2]
    · have ih := ih (by omega)
      refine kloop (E := fun c z => E_X12_goes_87 G t (120 + 5 * t) (σ 1 (120 + 5 * t + 2)) z.1 z.2.1 z.2.2 r c σ (fun x s => x = 0 ∧ s = kst σ 1 (sGo (σ 1) t))) (fun c => kfor (fun c a => kif (sOwn (σ 1) c r (σ 1 7 % 12) = σ 1 (120 + 5 * t + 2) ∧ sDist (σ 1) t c r < a.1) (sDist (σ 1) t c r, c, (r : Int)) a) c (sNext (σ 1) t r)) (σ 1 0).toNat (fun c hc jh => S_X12_goes_87 ?_)
      have ok2 := sNextC_ok (r := r) w ht q ok c (by omega)
      have o2 := sOwn_r (v := σ 1) (c := c) (r := r) (h := σ 1 7 % 12) w
      refine ⟨by omega, by omega, fun q2 => ?_, fun q2 => ⟨by omega, ⟨w, by omega, by omega, by omega, by omega⟩, by omega, by omega, fun h3 => ?_, fun h3 => ⟨⟨w, ht, by omega, by omega, by omega⟩, ?_⟩⟩⟩
      · have e : c = (σ 1 0).toNat := by omega
        rw [e]; exact ih
      · have jh := jh (by omega); rw [kfor, kif_f (fun y => h3 y.1)] at jh; exact jh
      · have d := sDist_r (c := c) (r := r) w ht (by omega) (by omega)
        refine ⟨by unfold sDist at d; omega, by omega, fun h4 => ⟨⟨w, ht, by omega, by omega, by omega⟩, ?_⟩, fun h4 => ?_⟩
        · have jh := jh (by omega); rw [kfor, kif_t ⟨h3, h4⟩] at jh; exact jh
        · have jh := jh (by omega); rw [kfor, kif_f (fun y => Int.not_lt.mpr h4 y.2)] at jh; exact jh
  · have wt := wf_tilled (j := 3) (x := σ 1 (120 + 5 * t + 3) + 1) w ht (by omega)
    have kk := wt.2.2.1 (σ 1 (120 + 5 * t + 2)) (by omega) (by rw [ku_ne (by omega)]; omega)
    rw [kup_k, kst_eq]
    refine ⟨by omega, by omega, by omega, by omega, by omega, rfl, ?_⟩
    rw [kup_st]; unfold sGo; rw [kif_t h]; rfl
noncomputable def sCuts (v : Int → Int) : Int → Int := kfor (fun k u => kif (sIn (sDooms v : Int) k) (ku u (34 + 9 * k + 8) 1) u) (v 2).toNat v
theorem sDooms_r {v : Int → Int} (w : wf v) : 0 ≤ (sDooms v : Int) ∧ (sDooms v : Int) < 64 := by
  obtain ⟨-, ⟨_, _⟩, -⟩ := wf_h w
  have := kset_lt (p := sDoom v) (v 2).toNat
  have := Nat.pow_le_pow_right (n := 2) (by decide) (show (v 2).toNat ≤ 6 by omega)
  unfold sDooms
  omega
theorem sCutsN_ok {v : Int → Int} {s : Int} (w : wf v) (n : Nat) (hn : (n : Int) ≤ v 2) : wf (kfor (fun k u => kif (sIn s k) (ku u (34 + 9 * k + 8) 1) u) n v) ∧ kfr (kfor (fun k u => kif (sIn s k) (ku u (34 + 9 * k + 8) 1) u) n v) v := by
  refine kfor_inv (P := fun _ u => wf u ∧ kfr u v) ⟨w, kfr.refl⟩ n (fun i a hi h => ?_)
  by_cases q : sIn s i
  · rw [kif_t q]
    have e := h.2 2 (by omega) (by omega)
    exact ⟨wf_cut h.1 ⟨by omega, by omega⟩ (Or.inr rfl), (kfr_ku (by omega)).trans h.2⟩
  · rw [kif_f q]; exact h
theorem sCuts_ok {v : Int → Int} (w : wf v) : wf (sCuts v) ∧ kfr (sCuts v) v := sCutsN_ok w _ (by have := (wf_h w).2.1; omega)
theorem P_X12_cuts {G : Kg} {σ : Kmem} (w : wf (σ 1)) : Run G WM M_X12_cuts 7 0 0 [vA G 0] σ (fun x s => x = (sDooms (σ 1) : Int) ∧ s = kst σ 1 (sCuts (σ 1))) := by
  have w1 := wf_h w
  refine S_X12_cuts ⟨w, ?_⟩
  have g := sDooms_r w
  have s0 : E_X12_cuts_7 G (sDooms (σ 1) : Int) 0 (kst σ 1 (σ 1)) (fun x s => x = (sDooms (σ 1) : Int) ∧ s = kst σ 1 (sCuts (σ 1))) := by
    refine kloop (E := fun i u => E_X12_cuts_7 G (sDooms (σ 1) : Int) i (kst σ 1 u) (fun x s => x = (sDooms (σ 1) : Int) ∧ s = kst σ 1 (sCuts (σ 1)))) (fun n => kfor (fun k u => kif (sIn (sDooms (σ 1) : Int) k) (ku u (34 + 9 * k + 8) 1) u) n (σ 1)) (σ 1 2).toNat (fun i hi ih => S_X12_cuts_7 ?_)
    have ok := sCutsN_ok (s := (sDooms (σ 1) : Int)) w i (by omega)
    have e2 := ok.2 2 (by omega) (by omega)
    rw [kst_eq, e2, kup_st]
    refine ⟨by omega, by omega, fun q => ⟨rfl, ?_⟩, fun q => ⟨⟨by omega, by omega, by omega⟩, fun h => ?_, fun h => ⟨by omega, ?_⟩⟩⟩
    · rw [show i = (σ 1 2).toNat by omega]; rfl
    · have ih := ih (by omega); rw [kfor, kif_f h] at ih; exact ih
    · have ih := ih (by omega); rw [kfor, kif_t h] at ih; exact ih
  rw [kst_id] at s0; exact s0
/-- crop c grows, if somebody owns its field -/
noncomputable def sCrop (u : Int → Int) (c : Int) : Int → Int := kif (sOwn u (u (88 + 4 * c)) (u (88 + 4 * c + 1)) (u 7 % 12) = -1) u (sEarn (ku u (88 + 4 * c + 3) (min 99 (u (88 + 4 * c + 3) + 1))) (sOwn u (u (88 + 4 * c)) (u (88 + 4 * c + 1)) (u 7 % 12)) 1)
theorem sCrop_ok {u : Int → Int} {c : Int} (w : wf u) (hc : 0 ≤ c ∧ c < u 3) : wf (sCrop u c) ∧ kfr (sCrop u c) u := by
  have w1 := wf_h w
  have a := w.2.2.2.1 c hc.1 hc.2
  have o := sOwn_r (v := u) (c := u (88 + 4 * c)) (r := u (88 + 4 * c + 1)) (h := u 7 % 12) w
  unfold sCrop
  by_cases q : sOwn u (u (88 + 4 * c)) (u (88 + 4 * c + 1)) (u 7 % 12) = -1
  · rw [kif_t q]; exact ⟨w, kfr.refl⟩
  · rw [kif_f q]
    have g := wf_grown (x := min 99 (u (88 + 4 * c + 3) + 1)) w hc (by omega)
    have f : kfr (ku u (88 + 4 * c + 3) (min 99 (u (88 + 4 * c + 3) + 1))) u := kfr_ku (by omega)
    have e := f 2 (by omega) (by omega)
    have r := sEarn_ok (k := sOwn u (u (88 + 4 * c)) (u (88 + 4 * c + 1)) (u 7 % 12)) (n := 1) g ⟨by omega, by omega⟩ (by omega)
    exact ⟨r.1, r.2.trans f⟩
theorem sNear_ok {v : Int → Int} {t c r : Int} (w : wf v) (ht : 0 ≤ t ∧ t < v 4) (hc : 0 ≤ c ∧ c < v 0) (hr : 0 ≤ r ∧ r < v 1) (hd : sDist v t c r ≠ 0) : wf (sNear v t c r) ∧ kfr (sNear v t c r) v := by
  have w1 := wf_h w
  have a := w.2.2.2.2 t ht.1 ht.2
  have ht1 := ht.1
  unfold sNear
  by_cases q : v (120 + 5 * t) = c
  · rw [if_pos q]
    refine ⟨wf_trow w ht ?_, kfr_ku (by omega)⟩
    have : v (120 + 5 * t + 1) ≠ r := by
      intro z; apply hd; unfold sDist kabs; rw [if_neg (by omega), if_neg (by omega)]; omega
    split <;> omega
  · rw [if_neg q]
    refine ⟨wf_tcol w ht ?_, kfr_ku (by omega)⟩
    split <;> omega
theorem sGo_ok {v : Int → Int} {t : Int} (w : wf v) (ht : 0 ≤ t ∧ t < v 4) : wf (sGo v t) ∧ kfr (sGo v t) v := by
  have w1 := wf_h w
  have a := w.2.2.2.2 t ht.1 ht.2
  have ht1 := ht.1
  unfold sGo
  by_cases q : sOwn v (v (120 + 5 * t)) (v (120 + 5 * t + 1)) (v 7 % 12) = v (120 + 5 * t + 2)
  · rw [kif_t q]
    have wt := wf_tilled (j := 3) (x := v (120 + 5 * t + 3) + 1) w ht (by omega)
    have f : kfr (ku v (120 + 5 * t + 3) (v (120 + 5 * t + 3) + 1)) v := kfr_ku (by omega)
    have e := f 2 (by omega) (by omega)
    have r := sEarn_ok (k := v (120 + 5 * t + 2)) (n := 1) wt ⟨by omega, by omega⟩ (by omega)
    exact ⟨r.1, r.2.trans f⟩
  · rw [kif_f q]
    by_cases q2 : (sNext v t (v 1).toNat).1 = 1000000
    · rw [kif_t q2]; exact ⟨wf_tilled (j := 4) w ht (by omega), kfr_ku (by omega)⟩
    · rw [kif_f q2]
      have ok := sNext_ok (t := t) w ht (v 1).toNat (by omega)
      have ok2 := ok.2 q2
      refine sNear_ok w ht ok2.1.1 ok2.1.2 ?_
      intro z
      have z1 : kabs (v (120 + 5 * t) - (sNext v t (v 1).toNat).2.1) = 0 ∧ kabs (v (120 + 5 * t + 1) - (sNext v t (v 1).toNat).2.2) = 0 := by
        have h3 := kabs_r (a := v (120 + 5 * t) - (sNext v t (v 1).toNat).2.1)
        have h4 := kabs_r (a := v (120 + 5 * t + 1) - (sNext v t (v 1).toNat).2.2)
        unfold sDist at z; omega
      have z2 : ∀ x : Int, kabs x = 0 → x = 0 := by intro x hx; unfold kabs at hx; split at hx <;> omega
      have z3 := z2 _ z1.1
      have z4 := z2 _ z1.2
      apply q
      rw [show v (120 + 5 * t) = (sNext v t (v 1).toNat).2.1 by omega, show v (120 + 5 * t + 1) = (sNext v t (v 1).toNat).2.2 by omega]
      exact ok2.2
/-- an hour goes by -/
noncomputable def sCrops (v : Int → Int) (n : Nat) : Int → Int := kfor (fun c u => sCrop u c) n (sCuts v)
noncomputable def sTens (v : Int → Int) (n : Nat) : Int → Int := kfor (fun t u => sGo u t) n (sCrops v (v 3).toNat)
noncomputable def sBy (v : Int → Int) : Int → Int := ku (sTens v (v 4).toNat) 7 (v 7 + 1)
theorem sCrops_ok {v : Int → Int} (w : wf v) (n : Nat) (hn : (n : Int) ≤ v 3) : wf (sCrops v n) ∧ kfr (sCrops v n) v := by
  refine kfor_inv (P := fun _ u => wf u ∧ kfr u v) (sCuts_ok w) n (fun i a hi h => ?_)
  have e := h.2 3 (by omega) (by omega)
  have r := sCrop_ok (c := i) h.1 ⟨by omega, by omega⟩
  exact ⟨r.1, r.2.trans h.2⟩
theorem sTens_ok {v : Int → Int} (w : wf v) (n : Nat) (hn : (n : Int) ≤ v 4) : wf (sTens v n) ∧ kfr (sTens v n) v := by
  have w1 := wf_h w
  refine kfor_inv (P := fun _ u => wf u ∧ kfr u v) (sCrops_ok w _ (by omega)) n (fun i a hi h => ?_)
  have e := h.2 4 (by omega) (by omega)
  have r := sGo_ok (t := i) h.1 ⟨by omega, by omega⟩
  exact ⟨r.1, r.2.trans h.2⟩
theorem sBy_ok {v : Int → Int} (w : wf v) (h7 : v 7 < 100000) : wf (sBy v) ∧ (∀ j, 0 ≤ j → j < 34 → j ≠ 7 → sBy v j = v j) ∧ sBy v 7 = v 7 + 1 := by
  have w1 := wf_h w
  have r := sTens_ok w (v 4).toNat (by omega)
  refine ⟨wf_now r.1 (by omega), fun j a b c => ?_, ku_eq⟩
  unfold sBy; rw [ku_ne c]; exact r.2 j a b
theorem P_X12_goesBy {G : Kg} {σ : Kmem} (w : wf (σ 1)) : Run G WM M_X12_goesBy 8 0 0 [vA G 0] σ (fun x s => x = (sDooms (σ 1) : Int) ∧ s = kst σ 1 (sBy (σ 1))) := by
  have w1 := wf_h w
  refine S_X12_goesBy (Run.mono (P_X12_cuts w) (fun r s z => ?_))
  obtain ⟨rfl, rfl⟩ := z
  refine kloop (E := fun i u => E_X12_goesBy_7 G (sDooms (σ 1) : Int) i (kst σ 1 u) (fun x s => x = (sDooms (σ 1) : Int) ∧ s = kst σ 1 (sBy (σ 1)))) (sCrops (σ 1)) (σ 1 3).toNat (fun i hi ih => S_X12_goesBy_7 ?_)
  have ok := sCrops_ok w i (by omega)
  have e0 := ok.2 0 (by omega) (by omega)
  have e1 := ok.2 1 (by omega) (by omega)
  have e2 := ok.2 2 (by omega) (by omega)
  have e3 := ok.2 3 (by omega) (by omega)
  have e7 := ok.2 7 (by omega) (by omega)
  simp only [kst_eq, kup_st]
  refine ⟨by omega, by omega, fun q => ?_, fun q => ?_⟩
  · have e : i = (σ 1 3).toNat := by omega
    subst e
    refine kloop (E := fun i u => E_X12_goesBy_93 G (sDooms (σ 1) : Int) i (kst σ 1 u) (fun x s => x = (sDooms (σ 1) : Int) ∧ s = kst σ 1 (sBy (σ 1)))) (sTens (σ 1)) (σ 1 4).toNat (fun i hi jh => S_X12_goesBy_93 ?_)
    have okt := sTens_ok w i (by omega)
    have t4 := okt.2 4 (by omega) (by omega)
    have t7 := okt.2 7 (by omega) (by omega)
    simp only [kst_eq, kup_st]
    refine ⟨by omega, by omega, fun q => ⟨trivial, ?_⟩, fun q => ?_⟩
    · rw [t7, show i = (σ 1 4).toNat by omega]; rfl
    · refine Run.mono (P_X12_goes (σ := kst σ 1 (sTens (σ 1) i)) (t := i) (by rw [kst_eq]; exact ⟨okt.1, by omega, by omega⟩)) (fun r s z => ?_)
      obtain ⟨rfl, rfl⟩ := z
      rw [kst_eq, kst_kst]; exact jh (by omega)
  · have ih := ih (by omega)
    have c := ok.1.2.2.2.1 i (by omega) (by omega)
    have o := sOwn_r (v := sCrops (σ 1) i) (c := sCrops (σ 1) i (88 + 4 * i)) (r := sCrops (σ 1) i (88 + 4 * i + 1)) (h := sCrops (σ 1) i 7 % 12) ok.1
    refine ⟨by omega, by omega, by omega, ⟨ok.1, by omega, by omega, by omega, by omega⟩, by omega, fun h => ?_, fun h => ?_⟩
    · have g := wf_grown (x := min 99 (sCrops (σ 1) i (88 + 4 * i + 3) + 1)) ok.1 (k := i) ⟨by omega, by omega⟩ (by omega)
      have k2 := g.2.2.1 (sOwn (sCrops (σ 1) i) (sCrops (σ 1) i (88 + 4 * i)) (sCrops (σ 1) i (88 + 4 * i + 1)) (sCrops (σ 1) i 7 % 12)) (by omega) (by rw [ku_ne (by omega)]; omega)
      refine ⟨by omega, by omega, by omega, by omega, by omega, by omega, ?_⟩
      rw [show sCrops (σ 1) (i + 1) = sCrop (sCrops (σ 1) i) i from rfl] at ih
      unfold sCrop at ih; rw [kif_f h] at ih; exact ih
    · rw [show sCrops (σ 1) (i + 1) = sCrop (sCrops (σ 1) i) i from rfl] at ih
      unfold sCrop at ih; rw [kif_t h] at ih; exact ih
