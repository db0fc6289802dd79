theorem kfm_at {σ : Kmem} {x j y : Int} : kfm (fun z => z = x) (kup σ x j y) σ := kfm_kup rfl
theorem ku_self {v : Int → Int} {i : Int} : ku v i (v i) = v := by
  funext j; unfold ku; split
  · rename_i h; rw [h]
  · rfl
theorem P_X0_stepHand {G : Kg} {σ : Kmem} {c k s : Int} {v : Int → Int} (hc : isC c) (p : wf v ∧ kco σ c v ∧ sKt v k ∧ sMay v k s ∧ 0 ≤ s ∧ s < 5) : Run G WX M_X0_stepHand 0 0 0 [vA G c, vI k, vI s] σ (fun x t => x = 0 ∧ kfm (ctyC c) t σ ∧ kco t c (sWalk v k s)) := by
  obtain ⟨w, kk, ⟨hk1, hk2⟩, hm, hs⟩ := p
  have w1 := wf_h w
  have kc := kk.2.2.1 k hk1 hk2
  have wa := wf_col (k := k) w ⟨hk1, hk2⟩ hm.1
  have ka := kco_col (x := v (34 + 9 * k) + sStepC s) w kk ⟨hk1, hk2⟩
  have h2 : sKt (ku v (34 + 9 * k) (v (34 + 9 * k) + sStepC s)) k := ⟨hk1, by rw [ku_ne (by omega)]; exact hk2⟩
  have wb := wf_row (k := k) (x := v (34 + 9 * k + 1) + sStepR s) wa h2 (by rw [ku_ne (by omega)]; exact hm.2)
  have kb := kco_row (x := v (34 + 9 * k + 1) + sStepR s) wa ka h2
  have h3 : sKt (ku (ku v (34 + 9 * k) (v (34 + 9 * k) + sStepC s)) (34 + 9 * k + 1) (v (34 + 9 * k + 1) + sStepR s)) k := ⟨hk1, by rw [ku_ne (by omega)]; exact h2.2⟩
  have kw := kco_walked (x := v (34 + 9 * k + 6) + 1) wb kb h3
  have fr : ∀ {τ : Kmem} {j y : Int}, kfm (ctyC c) (kup τ (c + 6 + k) j y) τ := kfm_kup ⟨by omega, by omega⟩
  refine S_X0_stepHand hc ⟨by omega, hs, by omega, hs, by omega, fun z => ⟨rfl, fr.trans fr, ?_⟩, fun z => ⟨by omega, rfl, fr.trans (fr.trans fr), ?_⟩⟩
  · rw [(kst0_c hs).1, (kst0_c hs).2, kup_j (by omega), kc.1.1, kc.1.2.1]
    have e : sWalk v k s = ku (ku v (34 + 9 * k) (v (34 + 9 * k) + sStepC s)) (34 + 9 * k + 1) (v (34 + 9 * k + 1) + sStepR s) := by
      unfold sWalk
      rw [if_pos z, Int.add_zero]
      have := ku_self (v := ku (ku v (34 + 9 * k) (v (34 + 9 * k) + sStepC s)) (34 + 9 * k + 1) (v (34 + 9 * k + 1) + sStepR s)) (i := 34 + 9 * k + 6)
      rw [ku_ne (by omega), ku_ne (by omega)] at this
      exact this
    rw [e]; exact kb
  · simp (disch := omega) only [kup_j]
    rw [(kst0_c hs).1, (kst0_c hs).2, kc.1.1, kc.1.2.1, kc.2.2.1]
    have e : sWalk v k s = ku (ku (ku v (34 + 9 * k) (v (34 + 9 * k) + sStepC s)) (34 + 9 * k + 1) (v (34 + 9 * k + 1) + sStepR s)) (34 + 9 * k + 6) (v (34 + 9 * k + 6) + 1) := by
      unfold sWalk; rw [if_neg z]
    rw [e]; exact kw
/-! plans: planting -/
abbrev dn (W R C f : Int) : Prop := f % 9 < W ∧ (f / 9 < R ∨ f / 9 = R ∧ f % 9 < C)
theorem P_X5_countOwnedFields {G : Kg} {σ : Kmem} {W D : Int} (p : (σ 31 0 = W ∧ σ 31 1 = D) ∧ (0 ≤ W ∧ W ≤ 9) ∧ (0 ≤ D ∧ D ≤ 7) ∧ ∀ f, 0 ≤ f → f < 63 → rI (σ 63 f)) : Run G WX M_X5_countOwnedFields 1 0 0 [vA G 82] σ (fun x s => x = 0 ∧ kfm (fun x => x = 83) s σ ∧ ∀ f, 0 ≤ f → f < 63 → s 83 f = σ 83 f + kb (dn W D 0 f ∧ σ 63 f ≠ -1)) := by
  obtain ⟨⟨h0, h1⟩, hW, hD, h63⟩ := p
  refine S_X5_countOwnedFields ?_
  refine kloopP (E := fun r τ => E_X5_countOwnedFields_2 G r τ (fun x s => x = 0 ∧ kfm (fun x => x = 83) s σ ∧ ∀ f, 0 ≤ f → f < 63 → s 83 f = σ 83 f + kb (dn W D 0 f ∧ σ 63 f ≠ -1))) (fun r τ => kfm (fun x => x = 83) τ σ ∧ ∀ f, 0 ≤ f → f < 63 → τ 83 f = σ 83 f + kb (dn W r 0 f ∧ σ 63 f ≠ -1)) D.toNat (fun r τ hr hI ih => S_X5_countOwnedFields_2 ?_) ⟨kfm.refl, fun f a b => by rw [kb_0 (fun q => by omega)]; omega⟩
  obtain ⟨f1, p1⟩ := hI
  have e0 : τ 31 0 = W := by rw [f1 31 (by omega)]; exact h0
  have e1 : τ 31 1 = D := by rw [f1 31 (by omega)]; exact h1
  refine ⟨by omega, by omega, fun q => ⟨rfl, f1, by rw [show D = (r : Int) by omega]; exact p1⟩, fun q => ?_⟩
  refine kloopP (E := fun c u => E_X5_countOwnedFields_15 G r c u (fun x s => x = 0 ∧ kfm (fun x => x = 83) s σ ∧ ∀ f, 0 ≤ f → f < 63 → s 83 f = σ 83 f + kb (dn W D 0 f ∧ σ 63 f ≠ -1))) (fun c u => kfm (fun x => x = 83) u σ ∧ ∀ f, 0 ≤ f → f < 63 → u 83 f = σ 83 f + kb (dn W r c f ∧ σ 63 f ≠ -1)) W.toNat (fun c u hcc hI jh => S_X5_countOwnedFields_15 ?_) ⟨f1, p1⟩
  obtain ⟨f2, p2⟩ := hI
  have g0 : u 31 0 = W := by rw [f2 31 (by omega)]; exact h0
  have g63 : u 63 = σ 63 := f2 63 (by omega)
  refine ⟨by omega, by omega, fun z => ih (by omega) u ⟨f2, fun f a b => ?_⟩, fun z => ⟨by omega, by rw [g63]; exact h63 _ (by omega) (by omega), fun y => jh (by omega) u ⟨f2, fun f a b => ?_⟩, fun y => ⟨by omega, by omega, jh (by omega) _ ⟨kfm_at.trans f2, fun f a b => ?_⟩⟩⟩⟩
  · rw [p2 f a b]
    exact congrArg (fun z => σ 83 f + z) (kb_iff ⟨fun y => ⟨by omega, y.2⟩, fun y => ⟨by omega, y.2⟩⟩)
  · rw [p2 f a b]
    rw [g63] at y
    refine congrArg (fun z => σ 83 f + z) (kb_iff ⟨fun y => ⟨by omega, y.2⟩, fun yy => ⟨?_, yy.2⟩⟩)
    by_cases e : f = r * 9 + c
    · rw [e] at yy; exact absurd y yy.2
    · omega
  · rw [g63] at y
    by_cases e : f = r * 9 + c
    · subst e
      rw [kup_at, p2 _ a b, kb_0 (P := dn W r c (r * 9 + c) ∧ _) (fun q => by omega), kb_1 (P := dn W r ((c + 1 : Nat) : Int) (r * 9 + c) ∧ _) ⟨by omega, y⟩]; omega
    · rw [kup_j e, p2 f a b]
      exact congrArg (fun z => σ 83 f + z) (kb_iff ⟨fun y => ⟨by omega, y.2⟩, fun yy => ⟨by omega, yy.2⟩⟩)
/-- the best of the first k fields, by ten in a row -/
noncomputable def sPb (v L : Int → Int) (k : Nat) : Int := kfor (fun k b => kif (sFld v (k % 10) (k / 10) ∧ (b = -1 ∨ L b < L k)) k b) k (-1)
theorem sPb_r {v L : Int → Int} : ∀ k : Nat, sPb v L k = -1 ∨ (0 ≤ sPb v L k ∧ sPb v L k < k) ∧ sFld v (sPb v L k % 10) (sPb v L k / 10)
  | 0 => Or.inl rfl
  | k + 1 => by
    have ih := sPb_r (v := v) (L := L) k
    have e : sPb v L (k + 1) = kif (sFld v ((k : Int) % 10) ((k : Int) / 10) ∧ (sPb v L k = -1 ∨ L (sPb v L k) < L k)) (k : Int) (sPb v L k) := rfl
    rw [e]
    by_cases q : sFld v ((k : Int) % 10) ((k : Int) / 10) ∧ (sPb v L k = -1 ∨ L (sPb v L k) < L k)
    · rw [kif_t q]; exact Or.inr ⟨by omega, q.1⟩
    · rw [kif_f q]; rcases ih with h | h
      · exact Or.inl h
      · exact Or.inr ⟨by omega, h.2⟩
theorem sPb_skip {v L : Int → Int} {a : Nat} : ∀ m : Nat, (∀ k : Nat, a ≤ k → k < a + m → ¬ sFld v ((k : Int) % 10) ((k : Int) / 10)) → sPb v L (a + m) = sPb v L a
  | 0, _ => rfl
  | m + 1, h => by
    have e : sPb v L (a + m + 1) = kif (sFld v (((a + m : Nat) : Int) % 10) (((a + m : Nat) : Int) / 10) ∧ (sPb v L (a + m) = -1 ∨ L (sPb v L (a + m)) < L ((a + m : Nat) : Int))) ((a + m : Nat) : Int) (sPb v L (a + m)) := rfl
    show sPb v L (a + m + 1) = _
    rw [e, kif_f (fun q => h (a + m) (by omega) (by omega) q.1)]
    exact sPb_skip m (fun k x y => h k x (by omega))
theorem sLay_s {v : Int → Int} {kite c r : Int} {n : Nat} : sLay v kite c r (n + 1) = sLay v kite c r n + kb (sHas (sCuts (sPasses v n)) kite c r) := by
  unfold sLay
  rw [kfor]
  rfl
abbrev planA (x : Int) : Prop := (31 ≤ x ∧ x < 57) ∨ (58 ≤ x ∧ x ≤ 63) ∨ x = 83
theorem P_X5_seekPlanting {G : Kg} {σ : Kmem} {n : Int} {v L : Int → Int} (p : (wf v ∧ kco σ 31 v) ∧ v 7 ≤ 20000 ∧ (1 ≤ n ∧ n ≤ 99) ∧ (0 < v 0) ∧ ∀ c r, sFld v c r → L (10 * r + c) = sLay v (-1) c r n.toNat) :
    Run G WX M_X5_seekPlanting 4 0 0 [vA G 82, vI n] σ (fun x s => x = 0 ∧ kfm (fun x => planA x ∨ x = 82) s σ ∧ (∀ j, j ≠ 2 → j ≠ 3 → s 82 j = σ 82 j) ∧ s 82 2 = sPb v L 70 ∧ s 82 3 = L (sPb v L 70) ∧ sPb v L 70 ≠ -1) := by
  obtain ⟨⟨w, kk⟩, h7, hn, h0, hL⟩ := p
  have hc : isC 31 := Or.inr (Or.inl rfl)
  have w1 := wf_h w
  refine S_X5_seekPlanting ?_
  generalize hQ : (fun (x : Int) (s : Kmem) => x = 0 ∧ kfm (fun x => planA x ∨ x = 82) s σ ∧ (∀ j, j ≠ 2 → j ≠ 3 → s 82 j = σ 82 j) ∧ s 82 2 = sPb v L 70 ∧ s 82 3 = L (sPb v L 70) ∧ sPb v L 70 ≠ -1) = Q
  refine kloopP (E := fun i τ => E_X5_seekPlanting_2 G n i τ Q) (fun i τ => kfm (fun x => x = 83) τ σ ∧ ∀ f : Int, 0 ≤ f → f < i → τ 83 f = 0) 63 (fun i τ hi hI ih => S_X5_seekPlanting_2 ⟨by omega, fun q => ?_, fun q => ⟨by omega, ih (by omega) _ ⟨kfm_at.trans hI.1, fun f a b => ?_⟩⟩⟩) ⟨kfm.refl, fun f a b => by omega⟩
  rotate_left
  · by_cases e : f = i
    · rw [e, kup_at]
    · rw [kup_j e]; exact hI.2 f a (by omega)
  obtain ⟨f1, z1⟩ := hI
  refine kloopP (E := fun i τ => E_X5_seekPlanting_23 G n i τ Q) (fun i τ => kfm planA τ σ ∧ kco τ 31 (sPasses v i) ∧ ∀ c r, sFld v c r → τ 83 (r * 9 + c) = sLay v (-1) c r i) n.toNat (fun i τ hi hI ih => S_X5_seekPlanting_23 ⟨by omega, by omega, fun q => ?_, fun q => ?_⟩) ⟨f1.wide (fun x z => Or.inr (Or.inr z)), kco_kfm w kk f1 (fun x a b z => by omega), fun c r h => by rw [z1 _ (by omega) (by omega)]; rfl⟩
  rotate_left
  · obtain ⟨f2, k2, l2⟩ := hI
    have ok := sPasses_ok w i (by omega)
    have u0 := ok.2.1 0 (by omega) (by omega) (by omega)
    have u1 := ok.2.1 1 (by omega) (by omega) (by omega)
    refine Run.mono (P_X0_loseCrossed hc ⟨ok.1, k2⟩) (fun x s z => ?_)
    obtain ⟨-, f3, k3, -, d3⟩ := z
    have cu := sCuts_ok ok.1
    have c0 := cu.2 0 (by omega) (by omega)
    have c1 := cu.2 1 (by omega) (by omega)
    have c7 := cu.2 7 (by omega) (by omega)
    have kh := kco_h k3
    have k4 := kco_hour (x := s 31 4 + 1) cu.1 k3
    rw [kh.2.1, c7] at k4
    rw [kh.2.1, c7]
    refine Run.mono (P_X5_countOwnedFields (W := v 0) (D := v 1) ⟨⟨?_, ?_⟩, by omega, by omega, fun f a b => ?_⟩) (fun x t z => ih (by omega) t ⟨?_, ?_, ?_⟩)
    · rw [kup_j (by omega), kh.1.1, c0, u0]
    · rw [kup_j (by omega), kh.1.2.1, c1, u1]
    · rw [kup_x (by omega), (d3 f a b).2]
      have := sOwI_r (v := sCuts (sPasses v i)) (q := sCt (sCuts (sPasses v i))) (h := sPasses v i 7 % 12) (f := f) (i := (sCuts (sPasses v i) 2).toNat)
      have c2 := (wf_h cu.1).2.1
      omega
    · exact (z.2.1.wide (fun x z => Or.inr (Or.inr z))).trans ((kfm_kup (Or.inl ⟨by omega, by omega⟩)).trans ((f3.wide (fun x z => by rcases z with z | z; exact Or.inl (by omega); exact Or.inr (Or.inl z))).trans f2))
    · refine kco_kfm ?_ k4 z.2.1 (fun x a b z => by omega)
      have q7 : 0 ≤ sPasses v i 7 + 1 ∧ sPasses v i 7 + 1 ≤ 100000 := by have := ok.2.2.1; omega
      exact wf_now cu.1 q7
    · intro c r hf
      rw [z.2.2 _ (by omega) (by omega), kup_x (by omega), f3 83 (by omega), l2 c r hf, sLay_s, kup_x (by omega)]
      congr 1
      refine kb_iff ?_
      have own := (skD_own cu.1 d3 (c := c) (r := r) ⟨⟨hf.1.1, by rw [c0, u0]; exact hf.1.2⟩, hf.2.1, by rw [c1, u1]; exact hf.2.2⟩).2
      unfold sHas
      rw [own, c7]
      exact ⟨fun y => ⟨y.2, Or.inl rfl⟩, fun y => ⟨by omega, y.1⟩⟩
  obtain ⟨f2, k2, l2⟩ := hI
  have ei : i = n.toNat := by omega
  subst ei
  have ok := sPasses_ok w n.toNat (by omega)
  have u0 := ok.2.1 0 (by omega) (by omega) (by omega)
  have u1 := ok.2.1 1 (by omega) (by omega) (by omega)
  have kh := kco_h k2
  have Lr : ∀ c r, sFld v c r → 0 ≤ L (10 * r + c) ∧ L (10 * r + c) ≤ 99 := fun c r h => by
    rw [hL c r h]; have := sLay_r (v := v) (kite := -1) (c := c) (r := r) n.toNat; omega
  have Lb : ∀ k, 0 ≤ k → sFld v (k % 10) (k / 10) → 0 ≤ L k ∧ L k ≤ 99 := fun k a h => by
    have := Lr _ _ h; rw [show 10 * (k / 10) + k % 10 = k by omega] at this; exact this
  have stepA : ∀ k : Nat, sPb v L (k + 1) = kif (sFld v ((k : Int) % 10) ((k : Int) / 10) ∧ (sPb v L k = -1 ∨ L (sPb v L k) < L k)) (k : Int) (sPb v L k) := fun k => rfl
  let I : Nat → Kmem → Prop := fun k y => (kfm (fun x => x = 82) y τ ∧ ∀ j, j ≠ 2 → j ≠ 3 → y 82 j = τ 82 j) ∧ (sPb v L k = -1 → y 82 3 = -1) ∧ (sPb v L k ≠ -1 → y 82 2 = sPb v L k ∧ y 82 3 = L (sPb v L k))
  refine kloopP (E := fun r y => E_X5_seekPlanting_70 G r y Q) (fun r y => I (10 * r) y) (v 1).toNat (fun r y hr hI jh => S_X5_seekPlanting_70 (l1 := 0) ?_) (τ := kup τ 82 3 (-1)) ⟨⟨kfm_at, fun j a b => kup_j b⟩, fun _ => kup_at, fun h => absurd rfl h⟩
  have e1 : y 31 1 = v 1 := by rw [hI.1.1 31 (by omega), kh.1.2.1, u1]
  refine ⟨by omega, by omega, fun q => ?_, fun q => ?_⟩
  · have er : (r : Int) = v 1 := by omega
    have sk := sPb_skip (v := v) (L := L) (a := 10 * r) (70 - 10 * r) (fun k a b h => by omega)
    rw [show 10 * r + (70 - 10 * r) = 70 by omega] at sk
    have nz : sPb v L 70 ≠ -1 := by
      intro h
      have : ∀ m : Nat, sPb v L (1 + m) ≠ -1 := by
        intro m
        induction m with
        | zero =>
          rw [stepA 0, kif_t ⟨⟨by omega, by omega⟩, Or.inl rfl⟩]; decide
        | succ m im =>
          rw [show 1 + (m + 1) = (1 + m) + 1 by omega, stepA]
          by_cases q : sFld v (((1 + m : Nat) : Int) % 10) (((1 + m : Nat) : Int) / 10) ∧ (sPb v L (1 + m) = -1 ∨ L (sPb v L (1 + m)) < L ((1 + m : Nat) : Int))
          · rw [kif_t q]; omega
          · rw [kif_f q]; exact im
      exact this 69 h
    rw [← hQ]
    have hI2 := hI.2.2 (by rw [← sk]; exact nz)
    rw [← sk] at hI2
    refine ⟨rfl, (hI.1.1.wide (fun x z => Or.inr z)).trans (f2.wide (fun x z => Or.inl z)), fun j a b => ?_, hI2.1, hI2.2, nz⟩
    rw [hI.1.2 j a b, f2 82 (by omega)]
  · refine kloopP (E := fun c y => E_X5_seekPlanting_83 G r c y Q) (fun c y => I (10 * r + c) y) (v 0).toNat (fun c z hcc hI mh => S_X5_seekPlanting_83 (l1 := 0) ?_) hI
    have g0 : z 31 0 = v 0 := by rw [hI.1.1 31 (by omega), kh.1.1, u0]
    refine ⟨by omega, by omega, fun y => ?_, fun y => ?_⟩
    · refine jh (by omega) z ?_
      have sk := sPb_skip (v := v) (L := L) (a := 10 * r + c) (10 - c) (fun k a b h => by omega)
      rw [show 10 * r + c + (10 - c) = 10 * (r + 1) by omega] at sk
      show I (10 * (r + 1)) z
      unfold I
      rw [sk]
      exact hI
    · have hf : sFld v (c : Int) (r : Int) := ⟨⟨by omega, by omega⟩, by omega, by omega⟩
      have lr := Lr c r hf
      have zl : z 83 (r * 9 + c) = L (10 * r + c) := by rw [hI.1.1 83 (by omega), l2 c r hf, hL c r hf]
      have st := stepA (10 * r + c)
      rw [show (((10 * r + c : Nat) : Int)) % 10 = c by omega, show (((10 * r + c : Nat) : Int)) / 10 = r by omega] at st
      have ek : ((10 * r + c : Nat) : Int) = 10 * (r : Int) + c := by omega
      rw [ek] at st
      have br := sPb_r (v := v) (L := L) (10 * r + c)
      have r3 : rI (z 82 3) := by
        by_cases b : sPb v L (10 * r + c) = -1
        · rw [hI.2.1 b]; decide
        · rw [(hI.2.2 b).2]
          have := Lb _ (by omega) (br.resolve_left b).2
          omega
      refine ⟨by omega, by rw [zl]; omega, r3, fun x => mh (by omega) z ?_, fun x => ⟨by omega, mh (by omega) _ ?_⟩⟩
      · rw [zl] at x
        have nn : ¬ (sFld v (c : Int) (r : Int) ∧ (sPb v L (10 * r + c) = -1 ∨ L (sPb v L (10 * r + c)) < L (10 * (r : Int) + c))) := by
          intro h
          by_cases b : sPb v L (10 * r + c) = -1
          · rw [hI.2.1 b] at x; omega
          · rw [(hI.2.2 b).2] at x; rcases h.2 with h | h
            · exact b h
            · omega
        rw [kif_f nn] at st
        show I (10 * r + c + 1) z
        unfold I
        rw [st]; exact hI
      · rw [zl] at x
        rw [zl]
        have yy : sFld v (c : Int) (r : Int) ∧ (sPb v L (10 * r + c) = -1 ∨ L (sPb v L (10 * r + c)) < L (10 * (r : Int) + c)) := by
          refine ⟨hf, ?_⟩
          by_cases b : sPb v L (10 * r + c) = -1
          · exact Or.inl b
          · rw [(hI.2.2 b).2] at x; exact Or.inr x
        rw [kif_t yy] at st
        show I (10 * r + c + 1) _
        unfold I
        rw [st]
        refine ⟨⟨kfm_at.trans (kfm_at.trans hI.1.1), fun j a b => ?_⟩, fun h => by omega, fun _ => ⟨?_, ?_⟩⟩
        · rw [kup_j a, kup_j b]; exact hI.1.2 j a b
        · rw [kup_at]; omega
        · rw [kup_j (by omega), kup_at]
