theorem sGo_geo {v : Int → Int} {t : Int} (w : wf v) (ht : 0 ≤ t ∧ t < v 4) : kgeo (sGo v t) v := by
  have w1 := wf_h w
  have a := w.2.2.2.2 t ht.1 ht.2
  have ht1 := ht.1
  unfold sGo
  by_cases q : sOwn v (v (120 + 5 * t)) (v (120 + 5 * t + 1)) (v 7 % 12) = v (120 + 5 * t + 2)
  · rw [kif_t q]; exact (kgeo_purse (by omega)).trans (kgeo_far (by omega) (by omega))
  · rw [kif_f q]
    by_cases q2 : (sNext v t (v 1).toNat).1 = 1000000
    · rw [kif_t q2]; exact kgeo_far (by omega) (by omega)
    · rw [kif_f q2]; unfold sNear; split <;> exact kgeo_far (by omega) (by omega)
theorem sTens_geo {v : Int → Int} (w : wf v) : ∀ n : Nat, (n : Int) ≤ v 4 → kgeo (sTens v n) (sCuts v)
  | 0, _ => sCrops_geo w _ (by have := wf_h w; omega)
  | n + 1, hn => by
    have ok := sTens_ok w n (by omega)
    have e := ok.2 4 (by omega) (by omega)
    exact (sGo_geo (t := n) ok.1 ⟨by omega, by omega⟩).trans (sTens_geo w n (by omega))
theorem kIsX_ten {c i : Int} (h : isC c) (hi : 0 ≤ i ∧ i < 6) : kIsX (c + 20 + i) 9 := by
  have q : ∀ k : Fin 6, kIsX (5 + 20 + (k.val : Int)) 9 ∧ kIsX (31 + 20 + (k.val : Int)) 9 ∧ kIsX (106 + 20 + (k.val : Int)) 9 ∧ kIsX (139 + 20 + (k.val : Int)) 9 ∧ kIsX (172 + 20 + (k.val : Int)) 9 := by unfold kIsX; decide +kernel
  have := q ⟨i.toNat, by omega⟩
  rw [show (((⟨i.toNat, by omega⟩ : Fin 6).val : Nat) : Int) = i from by show ((i.toNat : Nat) : Int) = i; omega] at this
  rcases h with rfl | rfl | rfl | rfl | rfl
  · exact this.1
  · exact this.2.1
  · exact this.2.2.1
  · exact this.2.2.2.1
  · exact this.2.2.2.2
/-- all that were cut in n hours -/
noncomputable def sHSet (v : Int → Int) (n : Nat) : Int := kfor (fun i a => kor a (sDooms (sHours v i.toNat) : Int)) n 0
abbrev ctyA (c x : Int) : Prop := (c ≤ x ∧ x < c + 26) ∨ (58 ≤ x ∧ x ≤ 63)
theorem P_X0_goBy {G : Kg} {σ : Kmem} {c n : Int} {v : Int → Int} (hc : isC c) (p : wf v ∧ kco σ c v ∧ v 7 ≤ 20000 ∧ 0 ≤ n ∧ n ≤ 1000) : Run G WX M_X0_goBy 4 0 0 [vA G c, vA G 58, vI n] σ (fun x s => x = sHSet v n.toNat ∧ kfm (ctyA c) s σ ∧ kco s c (sHours v n.toNat)) := by
  obtain ⟨w0, kk0, h7, hn⟩ := p
  have cr := isC_r hc
  refine S_X0_goBy hc ?_
  refine kloopP (E := fun i (z : Int × Kmem) => E_X0_goBy_5 G c n z.1 i z.2 (fun x s => x = sHSet v n.toNat ∧ kfm (ctyA c) s σ ∧ kco s c (sHours v n.toNat))) (fun i z => z.1 = sHSet v i ∧ kfm (ctyA c) z.2 σ ∧ kco z.2 c (sHours v i)) n.toNat (fun i z hi hI ih => S_X0_goBy_5 hc ?_) (τ := (0, σ)) ⟨rfl, kfm.refl, kk0⟩
  obtain ⟨z1, f, kk⟩ := hI
  have okH := sHours_ok w0 i (by omega)
  refine ⟨by omega, by omega, fun q => ⟨by rw [show n.toNat = i by omega]; exact z1, f, by rw [show n.toNat = i by omega]; exact kk⟩, fun q => ?_⟩
  have w := okH.1
  have w1 := wf_h w
  have ih := ih (by omega)
  have eS : sHours v (i + 1) = sBy (sHours v i) := rfl
  rw [eS] at ih
  have eT : sHSet v (i + 1) = kor (sHSet v i) (sDooms (sHours v i) : Int) := rfl
  rw [eT] at ih
  generalize sHours v i = V at *
  refine Run.mono (P_X0_loseCrossed hc ⟨w, kk⟩) (fun x s z => ?_)
  obtain ⟨rfl, f1, k1, sr, sd⟩ := z
  refine Run.mono (P_X0_growCrops hc ⟨w, k1, sd⟩) (fun x s2 z => ?_)
  obtain ⟨-, f2, k2⟩ := z
  have okc := sCuts_ok w
  have d0 := okc.2 0 (by omega) (by omega)
  have d1 := okc.2 1 (by omega) (by omega)
  refine kloopP (E := fun t τ => E_X0_goBy_27 G c n (kor z.1 (sDooms V : Int)) i t τ (fun x s => x = sHSet v n.toNat ∧ kfm (ctyA c) s σ ∧ kco s c (sHours v n.toNat))) (fun t τ => kfm (fun x => c ≤ x ∧ x < c + 26) τ s ∧ kco τ c (sTens V t)) (V 4).toNat (fun t τ ht hI jh => S_X0_goBy_27 hc ?_) ⟨f2, k2⟩
  obtain ⟨f3, k3⟩ := hI
  have okt := sTens_ok w t (by omega)
  have geo := sTens_geo w t (by omega)
  have kh := kco_h k3
  have t4 := okt.2 4 (by omega) (by omega)
  have t7 := okt.2 7 (by omega) (by omega)
  have t0 := okt.2 0 (by omega) (by omega)
  have t1 := okt.2 1 (by omega) (by omega)
  refine ⟨by omega, by omega, fun y => ?_, fun y => ⟨by omega, Run.mono (P_X0_follow hc (kIsX_ten hc ⟨by omega, by omega⟩) ⟨⟨okt.1, k3, ?_⟩, ⟨by omega, by omega⟩, fun a b hab => ?_⟩) (fun x s4 u => jh (by omega) s4 ⟨u.2.1.trans f3, u.2.2⟩)⟩⟩
  · have hx := ih (kor z.1 (sDooms V : Int), kup τ c 4 (τ c 4 + 1)) ⟨by rw [z1], ?_, ?_⟩
    · exact hx
    · exact (kfm_kup (Or.inl ⟨by omega, by omega⟩)).trans ((f3.wide (fun x z => Or.inl z)).trans ((f1.wide (fun x z => by rcases z with z | z; exact Or.inl ⟨by omega, by omega⟩; exact Or.inr z)).trans f))
    · have := kco_hour (x := τ c 4 + 1) okt.1 k3
      rw [kh.2.1, t7, show t = (V 4).toNat by omega] at this
      rw [kh.2.1, t7]; exact this
  · rw [f3 58 (fun z => by have := z.1; have := z.2; omega)]; exact sr.1
  · rw [f3 63 (fun z => by have := z.1; have := z.2; omega), (skD_own okc.1 sd ⟨⟨hab.1.1, by have := hab.1.2; omega⟩, hab.2.1, by have := hab.2.2; omega⟩).2, t7]
    exact (kgeo_own okc.1 geo ⟨by omega, by omega⟩).symm
