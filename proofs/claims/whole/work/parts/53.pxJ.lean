theorem sCrop_geo {u : Int → Int} {c : Int} (w : wf u) (hc : 0 ≤ c ∧ c < u 3) : kgeo (sCrop u c) u := by
  have w1 := wf_h w
  have o := sOwn_r (v := u) (c := u (88 + 4 * c)) (r := u (88 + 4 * c + 1)) (h := u 7 % 12) w
  unfold sCrop
  by_cases q : sOwn u (u (88 + 4 * c)) (u (88 + 4 * c + 1)) (u 7 % 12) = -1
  · rw [kif_t q]; exact kgeo.refl
  · rw [kif_f q]; exact (kgeo_purse (by omega)).trans (kgeo_far (by omega) (by omega))
theorem sCrops_geo {v : Int → Int} (w : wf v) : ∀ n : Nat, (n : Int) ≤ v 3 → kgeo (sCrops v n) (sCuts v)
  | 0, _ => kgeo.refl
  | n + 1, hn => by
    have ok := sCrops_ok w n (by omega)
    have e := ok.2 3 (by omega) (by omega)
    exact (sCrop_geo (c := n) ok.1 ⟨by omega, by omega⟩).trans (sCrops_geo w n (by omega))
theorem P_X0_growCrops {G : Kg} {σ : Kmem} {c : Int} {v : Int → Int} (hc : isC c) (p : wf v ∧ kco σ c (sCuts v) ∧ skD σ (sCuts v) (sCt (sCuts v)) (v 7 % 12)) : Run G WX M_X0_growCrops 2 0 0 [vA G c, vA G 58] σ (fun x s => x = 0 ∧ kfm (fun x => c ≤ x ∧ x < c + 26) s σ ∧ kco s c (sCrops v (v 3).toNat)) := by
  obtain ⟨w, kk, sd⟩ := p
  have w1 := wf_h w
  have cr := isC_r hc
  have okc := sCuts_ok w
  refine S_X0_growCrops hc ?_
  refine kloopP (E := fun i τ => E_X0_growCrops_2 G c i τ (fun x s => x = 0 ∧ kfm (fun x => c ≤ x ∧ x < c + 26) s σ ∧ kco s c (sCrops v (v 3).toNat))) (fun i τ => kfm (fun x => c ≤ x ∧ x < c + 26) τ σ ∧ kco τ c (sCrops v i)) (v 3).toNat (fun i τ hi hI ih => S_X0_growCrops_2 hc ?_) ⟨kfm.refl, kk⟩
  obtain ⟨f, k2⟩ := hI
  have ok := sCrops_ok w i (by omega)
  have geo := sCrops_geo w i (by omega)
  have k1 := kco_h k2
  have e0 := ok.2 0 (by omega) (by omega)
  have e1 := ok.2 1 (by omega) (by omega)
  have e2 := ok.2 2 (by omega) (by omega)
  have e3 := ok.2 3 (by omega) (by omega)
  have e7 := ok.2 7 (by omega) (by omega)
  have d0 := okc.2 0 (by omega) (by omega)
  have d1 := okc.2 1 (by omega) (by omega)
  refine ⟨by omega, by omega, fun z => ⟨rfl, f, by rw [show (v 3).toNat = i by omega]; exact k2⟩, fun z => ?_⟩
  have hi2 : (i : Int) < sCrops v i 3 := by omega
  have kc := k2.2.2.2.1 i (by omega) hi2
  have wc := ok.1.2.2.2.1 i (by omega) hi2
  have ih := ih (by omega)
  rw [show sCrops v (i + 1) = sCrop (sCrops v i) i from rfl] at ih
  generalize hu : sCrops v i = u at *
  have ow := (skD_own (c := u (88 + 4 * i)) (r := u (88 + 4 * i + 1)) okc.1 sd ⟨⟨by omega, by omega⟩, by omega, by omega⟩).2
  rw [← kgeo_own okc.1 geo ⟨by omega, by omega⟩, ← e7] at ow
  have o := sOwn_r (v := u) (c := u (88 + 4 * i)) (r := u (88 + 4 * i + 1)) (h := u 7 % 12) ok.1
  have t63 : τ 63 = σ 63 := f 63 (fun y => by have := y.1; have := y.2; omega)
  rw [kc.1.1, kc.1.2, kc.2.2, t63, ow]
  refine ⟨by omega, by omega, by omega, by omega, fun y => ?_, fun y => ⟨by omega, by omega, by omega, ?_⟩⟩
  · refine ih τ ⟨f, ?_⟩
    unfold sCrop; rw [kif_t y]; exact k2
  · have wg := wf_grown (x := min 99 (u (88 + 4 * i + 3) + 1)) ok.1 (k := i) ⟨by omega, hi2⟩ (by omega)
    have kg := kco_grown (x := min 99 (u (88 + 4 * i + 3) + 1)) ok.1 k2 ⟨by omega, hi2⟩
    have ho : (0 : Int) ≤ sOwn u (u (88 + 4 * i)) (u (88 + 4 * i + 1)) (u 7 % 12) ∧ sOwn u (u (88 + 4 * i)) (u (88 + 4 * i + 1)) (u 7 % 12) < ku u (88 + 4 * i + 3) (min 99 (u (88 + 4 * i + 3) + 1)) 2 := by rw [ku_ne (by omega)]; omega
    have kp := (kg.2.2.1 _ ho.1 ho.2).2.1.2.2
    have wp := wg.2.2.1 _ ho.1 ho.2
    rw [kp]
    refine ⟨by omega, ih _ ⟨(kfm_kup ⟨by omega, by omega⟩).trans ((kfm_kup ⟨by omega, by omega⟩).trans f), ?_⟩⟩
    have := kco_purse (x := min 9999 (ku u (88 + 4 * i + 3) (min 99 (u (88 + 4 * i + 3) + 1)) (34 + 9 * sOwn u (u (88 + 4 * i)) (u (88 + 4 * i + 1)) (u 7 % 12) + 5) + 1)) wg kg ho
    unfold sCrop; rw [kif_f y]; exact this
