theorem P_X0_follow {G : Kg} {σ : Kmem} {c t : Int} {v : Int → Int} (hc : isC c) (ha : kIsX (c + 20 + t) 9) (p : (wf v ∧ kco σ c v ∧ σ 58 0 = c) ∧ (0 ≤ t ∧ t < v 4) ∧ ∀ x y, sFld v x y → σ 63 (y * 9 + x) = sOwn v x y (v 7 % 12)) :
    Run G WX M_X0_follow 3 0 0 [vA G c, vA G (c + 20 + t), vA G 58] σ (fun x s => x = 0 ∧ kfm (fun x => c ≤ x ∧ x < c + 26) s σ ∧ kco s c (sGo v t)) := by
  have P := p
  obtain ⟨⟨w, kk, s0⟩, ht, ho⟩ := p
  have w1 := wf_h w
  have k1 := kco_h kk
  have kt := kk.2.2.2.2 t ht.1 ht.2
  have wt := w.2.2.2.2 t ht.1 ht.2
  have ht1 := ht.1
  have ht2 := ht.2
  have ow := ho (v (120 + 5 * t)) (v (120 + 5 * t + 1)) ⟨⟨by omega, by omega⟩, by omega, by omega⟩
  have o := sOwn_r (v := v) (c := v (120 + 5 * t)) (r := v (120 + 5 * t + 1)) (h := v 7 % 12) w
  have fr : ∀ (x j y : Int) (τ : Kmem), c ≤ x → x < c + 26 → kfm (fun x => c ≤ x ∧ x < c + 26) (kup τ x j y) τ := fun x j y τ a b => kfm_kup ⟨a, b⟩
  refine S_X0_follow hc ha ?_
  rw [kt.1.1, kt.1.2, kt.2.1, ow, kup_j (by omega), kt.2.1]
  refine ⟨by omega, by omega, by omega, fun h => Run.mono (P_X8_nearestOf hc ha P) (fun x s z => ?_), fun h => ?_⟩
  · obtain ⟨rfl, rfl⟩ := z
    have ok := sNext_ok (t := t) w ht (v 1).toNat (by omega)
    have dr := sDec_r w ht ok
    unfold sGo
    rw [kif_f h]
    by_cases q : (sNext v t (v 1).toNat).1 = 1000000
    · have e : (sDec (sNext v t (v 1).toNat)).1 = -1 := by unfold sDec; rw [if_pos q]
      rw [e, kif_t q]
      refine ⟨by omega, fun y => absurd rfl y, fun _ => ⟨rfl, fr _ _ _ _ (by omega) (by omega), ?_⟩⟩
      rw [kt.2.2.2]
      exact kco_idle w kk ht
    · have e : (sDec (sNext v t (v 1).toNat)).1 = (sNext v t (v 1).toNat).2.2 * 9 + (sNext v t (v 1).toNat).2.1 := by unfold sDec; rw [if_neg q]
      have ok2 := ok.2 q
      have e1 : ((sNext v t (v 1).toNat).2.2 * 9 + (sNext v t (v 1).toNat).2.1) % 9 = (sNext v t (v 1).toNat).2.1 := by omega
      have e2 : ((sNext v t (v 1).toNat).2.2 * 9 + (sNext v t (v 1).toNat).2.1) / 9 = (sNext v t (v 1).toNat).2.2 := by omega
      rw [e, kif_f q, e1, e2]
      refine ⟨by omega, fun _ => ⟨by omega, by omega, S_X9_stepTowards ha ?_⟩, fun y => by omega⟩
      rw [kt.1.1, kt.1.2]
      unfold sNear
      refine ⟨by omega, by omega, fun y => ⟨by omega, by omega, fun y2 => ?_, fun y2 => ⟨fun y3 => ⟨rfl, fr _ _ _ _ (by omega) (by omega), ?_⟩, fun y3 => ⟨rfl, fr _ _ _ _ (by omega) (by omega), ?_⟩⟩⟩, fun y => ⟨fun y3 => ⟨rfl, fr _ _ _ _ (by omega) (by omega), ?_⟩, fun y3 => ⟨rfl, fr _ _ _ _ (by omega) (by omega), ?_⟩⟩⟩
      · exfalso
        apply h
        have oo := ok2.2
        rw [y, y2] at oo; exact oo
      · rw [if_pos y.symm, if_neg (by omega)]; exact kco_trow w kk ht
      · rw [if_pos y.symm, if_pos (by omega)]; exact kco_trow w kk ht
      · rw [if_neg (fun u => y u.symm), if_neg (by omega)]; exact kco_tcol w kk ht
      · rw [if_neg (fun u => y u.symm), if_pos (by omega)]; exact kco_tcol w kk ht
  · have wg := wf_tilled (j := 3) (x := v (120 + 5 * t + 3) + 1) w ht (by omega)
    have kg := kco_tilled (x := v (120 + 5 * t + 3) + 1) w kk ht
    have hk : (0 : Int) ≤ v (120 + 5 * t + 2) ∧ v (120 + 5 * t + 2) < ku v (120 + 5 * t + 3) (v (120 + 5 * t + 3) + 1) 2 := by rw [ku_ne (by omega)]; omega
    have kp := (kg.2.2.1 _ hk.1 hk.2).2.1.2.2
    have wp := wg.2.2.1 _ hk.1 hk.2
    rw [kt.2.2.1, kp]
    refine ⟨by omega, by omega, rfl, (fr _ _ _ _ (by omega) (by omega)).trans (fr _ _ _ _ (by omega) (by omega)), ?_⟩
    unfold sGo; rw [kif_t h]
    exact kco_purse wg kg hk
