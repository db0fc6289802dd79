theorem kIsX_crop {c i : Int} (h : isC c) (hi : 0 ≤ i ∧ i < 8) : kIsX (c + 12 + i) 2 := by
  have q : ∀ k : Fin 8, kIsX (5 + 12 + (k.val : Int)) 2 ∧ kIsX (31 + 12 + (k.val : Int)) 2 ∧ kIsX (106 + 12 + (k.val : Int)) 2 ∧ kIsX (139 + 12 + (k.val : Int)) 2 ∧ kIsX (172 + 12 + (k.val : Int)) 2 := by unfold kIsX; decide +kernel
  have := q ⟨i.toNat, by omega⟩
  rw [show (((⟨i.toNat, by omega⟩ : Fin 8).val : Nat) : Int) = i from by show ((i.toNat : Nat) : Int) = i; omega] at this
  rcases h with rfl | rfl | rfl | rfl | rfl
  · exact this.1
  · exact this.2.1
  · exact this.2.2.1
  · exact this.2.2.2.1
  · exact this.2.2.2.2
theorem P_X0_ripeSet {G : Kg} {σ : Kmem} {c : Int} {v : Int → Int} (hc : isC c) (p : wf v ∧ kco σ c v) : Run G WX M_X0_ripeSet 1 0 0 [vA G c] σ (fun x s => x = (kset (fun i => v (88 + 4 * i + 2) ≤ v (88 + 4 * i + 3)) (v 3).toNat : Int) ∧ s = σ) := by
  obtain ⟨w, k⟩ := p
  have k1 := kco_h k
  have w1 := wf_h w
  refine S_X0_ripeSet hc ?_
  refine kloopS (E := fun i a => E_X0_ripeSet_4 G c a i σ (fun x s => x = (kset (fun i => v (88 + 4 * i + 2) ≤ v (88 + 4 * i + 3)) (v 3).toNat : Int) ∧ s = σ)) (p := fun i => v (88 + 4 * i + 2) ≤ v (88 + 4 * i + 3)) (N := (v 3).toNat) (by omega) (fun i a hi ha he hs hn hz => S_X0_ripeSet_4 hc ⟨by omega, by omega, fun q => ⟨he (by omega), rfl⟩, fun q => ⟨by omega, Run.mono (P_X2_isRipe (i := i) (kIsX_crop hc ⟨by omega, by omega⟩) ⟨w, k, by omega, by omega⟩) (fun x s z => ?_)⟩⟩)
  rw [z.1, z.2]
  exact ⟨kb_r _, fun h => hz (by omega) (kb_f h), fun h => hs (by omega) (kb_t h)⟩
theorem kst0_c {s : Int} (h : 0 ≤ s ∧ s < 5) : kst0 s = sStepC s ∧ kst1 s = sStepR s := by
  have : ∀ d : Fin 5, kst0 (d.val : Int) = sStepC (d.val : Int) ∧ kst1 (d.val : Int) = sStepR (d.val : Int) := by decide
  have := this ⟨s.toNat, by omega⟩
  rw [show (((⟨s.toNat, by omega⟩ : Fin 5).val : Nat) : Int) = s from by show ((s.toNat : Nat) : Int) = s; omega] at this
  exact this
theorem P_X0_mayStep {G : Kg} {σ : Kmem} {c k s : Int} {v : Int → Int} (hc : isC c) (p : wf v ∧ kco σ c v ∧ sKt v k ∧ 0 ≤ s ∧ s < 5) : Run G WX M_X0_mayStep 2 0 0 [vA G c, vI k, vI s] σ (fun x t => x = kb (sMay v k s) ∧ t = σ) := by
  obtain ⟨w, kk, ⟨hk1, hk2⟩, hs⟩ := p
  have w1 := wf_h w
  have kc := kk.2.2.1 k hk1 hk2
  have wc := w.2.2.1 k hk1 hk2
  have c1 : -1 ≤ sStepC s ∧ sStepC s ≤ 1 := by unfold sStepC; (repeat' split) <;> omega
  have c2 : -1 ≤ sStepR s ∧ sStepR s ≤ 1 := by unfold sStepR; (repeat' split) <;> omega
  refine S_X0_mayStep hc ⟨by omega, by omega, by omega, by omega, ?_⟩
  rw [kc.1.1, kc.1.2.1, (kst0_c hs).1, (kst0_c hs).2]
  refine Run.mono (P_X0_hasField (v := v) hc ⟨w, kk, by omega, by omega⟩) (fun x t z => ?_)
  rw [z.1, z.2]
  exact ⟨kb_01 _, rfl, rfl⟩
