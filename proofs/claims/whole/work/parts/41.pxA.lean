theorem P_X0_hasLand {G : Kg} {σ : Kmem} {c : Int} {v : Int → Int} (hc : isC c) (p : wf v ∧ kco σ c v) : Run G WX M_X0_hasLand 0 0 0 [vA G c] σ (fun x s => x = kb (0 < v 0) ∧ s = σ) := by
  obtain ⟨w, k⟩ := p
  have k1 := kco_h k
  have w1 := wf_h w
  refine S_X0_hasLand hc ⟨by omega, fun h => ⟨(kb_0 (by omega)).symm, rfl⟩, fun h => ⟨by omega, fun h2 => ⟨(kb_0 (by omega)).symm, rfl⟩, fun h2 => ⟨(kb_1 (by omega)).symm, rfl⟩⟩⟩
theorem P_X0_hasKite {G : Kg} {σ : Kmem} {c i : Int} {v : Int → Int} (hc : isC c) (p : wf v ∧ kco σ c v ∧ rI i) : Run G WX M_X0_hasKite 0 0 0 [vA G c, vI i] σ (fun x s => x = kb (sKt v i) ∧ s = σ) := by
  obtain ⟨w, k, hi⟩ := p
  have k1 := kco_h k
  have w1 := wf_h w
  refine S_X0_hasKite hc ⟨hi, fun h => ⟨(kb_0 (fun q => by have := q.1; omega)).symm, rfl⟩, fun h => ⟨by omega, fun h2 => ⟨(kb_0 (fun q => by have := q.2; omega)).symm, rfl⟩, fun h2 => ⟨(kb_1 ⟨h, by omega⟩).symm, rfl⟩⟩⟩
theorem P_X0_hasCrop {G : Kg} {σ : Kmem} {c i : Int} {v : Int → Int} (hc : isC c) (p : wf v ∧ kco σ c v ∧ rI i) : Run G WX M_X0_hasCrop 0 0 0 [vA G c, vI i] σ (fun x s => x = kb (0 ≤ i ∧ i < v 3) ∧ s = σ) := by
  obtain ⟨w, k, hi⟩ := p
  have k1 := kco_h k
  have w1 := wf_h w
  refine S_X0_hasCrop hc ⟨hi, fun h => ⟨(kb_0 (by omega)).symm, rfl⟩, fun h => ⟨by omega, fun h2 => ⟨(kb_0 (by omega)).symm, rfl⟩, fun h2 => ⟨(kb_1 (by omega)).symm, rfl⟩⟩⟩
theorem P_X0_hasTenant {G : Kg} {σ : Kmem} {c i : Int} {v : Int → Int} (hc : isC c) (p : wf v ∧ kco σ c v ∧ rI i) : Run G WX M_X0_hasTenant 0 0 0 [vA G c, vI i] σ (fun x s => x = kb (0 ≤ i ∧ i < v 4) ∧ s = σ) := by
  obtain ⟨w, k, hi⟩ := p
  have k1 := kco_h k
  have w1 := wf_h w
  refine S_X0_hasTenant hc ⟨hi, fun h => ⟨(kb_0 (by omega)).symm, rfl⟩, fun h => ⟨by omega, fun h2 => ⟨(kb_0 (by omega)).symm, rfl⟩, fun h2 => ⟨(kb_1 (by omega)).symm, rfl⟩⟩⟩
theorem P_X0_hasRow {G : Kg} {σ : Kmem} {c i : Int} {v : Int → Int} (hc : isC c) (p : wf v ∧ kco σ c v ∧ rI i) : Run G WX M_X0_hasRow 0 0 0 [vA G c, vI i] σ (fun x s => x = kb (0 ≤ i ∧ i < v 1) ∧ s = σ) := by
  obtain ⟨w, k, hi⟩ := p
  have k1 := kco_h k
  have w1 := wf_h w
  refine S_X0_hasRow hc ⟨hi, fun h => ⟨(kb_0 (by omega)).symm, rfl⟩, fun h => ⟨by omega, fun h2 => ⟨(kb_0 (by omega)).symm, rfl⟩, fun h2 => ⟨(kb_1 (by omega)).symm, rfl⟩⟩⟩
theorem P_X0_hasField {G : Kg} {σ : Kmem} {c i j : Int} {v : Int → Int} (hc : isC c) (p : wf v ∧ kco σ c v ∧ rI i ∧ rI j) : Run G WX M_X0_hasField 1 0 0 [vA G c, vI i, vI j] σ (fun x s => x = kb (sFld v i j) ∧ s = σ) := by
  obtain ⟨w, k, hi, hj⟩ := p
  have k1 := kco_h k
  have w1 := wf_h w
  refine S_X0_hasField hc ⟨hi, fun h => ⟨(kb_0 (fun q => by have := q.1; omega)).symm, rfl⟩, fun h => ⟨by omega, fun h2 => ⟨(kb_0 (fun q => by have := q.1; omega)).symm, rfl⟩, fun h2 => Run.mono (P_X0_hasRow hc ⟨w, k, hj⟩) (fun x s z => ?_)⟩⟩
  obtain ⟨rfl, rfl⟩ := z
  exact ⟨kb_r _, fun q => ⟨(kb_0 (fun y => kb_f q y.2)).symm, rfl⟩, fun q => ⟨(kb_1 ⟨⟨h, by omega⟩, kb_t q⟩).symm, rfl⟩⟩
theorem P_X0_hourOfDay {G : Kg} {σ : Kmem} {c : Int} {v : Int → Int} (hc : isC c) (p : wf v ∧ kco σ c v) : Run G WX M_X0_hourOfDay 0 0 0 [vA G c] σ (fun x s => x = v 7 % 12 ∧ s = σ) := by
  obtain ⟨w, k⟩ := p
  have k1 := kco_h k
  have w1 := wf_h w
  exact S_X0_hourOfDay hc ⟨by omega, by rw [k1.2.1], rfl⟩
theorem P_X0_cutSet {G : Kg} {σ : Kmem} {c : Int} {v : Int → Int} (hc : isC c) (p : wf v ∧ kco σ c v) : Run G WX M_X0_cutSet 0 0 0 [vA G c] σ (fun x s => x = (kset (fun k => v (34 + 9 * k + 8) = 1) (v 2).toNat : Int) ∧ s = σ) := by
  obtain ⟨w, k⟩ := p
  have k1 := kco_h k
  have w1 := wf_h w
  refine S_X0_cutSet hc ?_
  refine kloopS (E := fun i a => E_X0_cutSet_4 G c a i σ _) (p := fun k => v (34 + 9 * k + 8) = 1) (N := (v 2).toNat) (by omega) (fun i a hi ha he hs hn hz => S_X0_cutSet_4 hc ⟨by omega, by omega, fun q => ⟨he (by omega), rfl⟩, fun q => ?_⟩)
  have ki := k.2.2.1 i (by omega) (by omega)
  have wi := w.2.2.1 i (by omega) (by omega)
  exact ⟨by omega, by omega, fun h => hz (by omega) (by omega), fun h => hs (by omega) (by omega)⟩
theorem P_X2_isRipe {G : Kg} {σ : Kmem} {c i : Int} {v : Int → Int} (ha : kIsX (c + 12 + i) 2) (p : wf v ∧ kco σ c v ∧ 0 ≤ i ∧ i < v 3) : Run G WX M_X2_isRipe 0 0 0 [vA G (c + 12 + i)] σ (fun x s => x = kb (v (88 + 4 * i + 2) ≤ v (88 + 4 * i + 3)) ∧ s = σ) := by
  obtain ⟨w, k, h1, h2⟩ := p
  have ki := k.2.2.2.1 i h1 h2
  have wi := w.2.2.2.1 i h1 h2
  exact S_X2_isRipe ha ⟨by omega, by omega, fun h => ⟨(kb_0 (by omega)).symm, rfl⟩, fun h => ⟨(kb_1 (by omega)).symm, rfl⟩⟩
