/-- how many fields there are of which p holds -/
noncomputable def kcnt (p : Int → Int → Prop) (W D : Nat) : Int := kfor (fun c n => kfor (fun r n => n + kb (p c r)) D n) W 0
theorem kcol_r {p : Int → Prop} {n : Int} (D : Nat) : n ≤ kfor (fun r n => n + kb (p r)) D n ∧ kfor (fun r n => n + kb (p r)) D n ≤ n + D := by
  refine kfor_inv (P := fun (i : Nat) (m : Int) => n ≤ m ∧ m ≤ n + (i : Int)) ⟨by omega, by omega⟩ D (fun i a hi h => ?_)
  rcases kb_01 (p i) with q | q <;> rw [q] <;> omega
theorem kcntn_r {p : Int → Int → Prop} {D : Nat} (hD : D ≤ 7) (W : Nat) : 0 ≤ kfor (fun c n => kfor (fun r n => n + kb (p c r)) D n) W 0 ∧ kfor (fun c n => kfor (fun r n => n + kb (p c r)) D n) W 0 ≤ 7 * (W : Int) := by
  refine kfor_inv (P := fun (i : Nat) (m : Int) => 0 ≤ m ∧ m ≤ 7 * (i : Int)) ⟨by omega, by omega⟩ W (fun i a hi h => ?_)
  have := kcol_r (p := p i) (n := a) D
  omega
theorem kcnt_r {v : Int → Int} {p : Int → Int → Prop} (w : wf v) : 0 ≤ kcnt p (v 0).toNat (v 1).toNat ∧ kcnt p (v 0).toNat (v 1).toNat ≤ 63 := by
  have h := wf_h w
  have := kcntn_r (p := p) (D := (v 1).toNat) (by omega) (v 0).toNat
  unfold kcnt
  omega
/-- the loops over all fields that count -/
theorem kgrid {p : Int → Int → Prop} {W D : Nat} {E1 : Int → Int → Prop} {E2 : Int → Int → Int → Prop} {X : Prop}
    (H1 : ∀ (c : Nat) (n : Int), c ≤ W → (c = W → n = kcnt p W D) → (c < W → E2 c 0 n) → E1 c n)
    (H2 : ∀ (c r : Nat) (n : Int), c < W → r ≤ D → (r = D → E1 ((c : Int) + 1) n) → (r < D → E2 c ((r : Int) + 1) (n + kb (p c r))) → E2 c r n) : E1 0 0 := by
  refine kloop (E := E1) (fun i => kfor (fun c n => kfor (fun r n => n + kb (p c r)) D n) i 0) W (fun i hi ih => H1 i _ hi (fun e => by rw [e]; rfl) (fun h => ?_))
  refine kloop (E := fun r n => E2 i r n) (fun j => kfor (fun r n => n + kb (p i r)) j (kfor (fun c n => kfor (fun r n => n + kb (p c r)) D n) i 0)) D (fun j hj jh => H2 i j _ h hj (fun e => ?_) jh)
  rw [e]; exact ih h
noncomputable def sEst (v : Int → Int) (k h : Int) : Int := kcnt (fun c r => sOwn v c r h = k) (v 0).toNat (v 1).toNat
theorem sOwn_r {v : Int → Int} {c r h : Int} (w : wf v) : -1 ≤ sOwn v c r h ∧ sOwn v c r h < v 2 := sOwnBy_r w
theorem P_X12_estateOf {G : Kg} {σ : Kmem} {k h : Int} (p : wf (σ 1) ∧ rI k ∧ sHr h) : Run G WM M_X12_estateOf 7 0 0 [vA G 0, vI k, vI h] σ (fun x s => x = sEst (σ 1) k h ∧ s = σ) := by
  obtain ⟨w, hk, hh⟩ := p
  have w1 := wf_h w
  refine S_X12_estateOf ?_
  refine kgrid (p := fun c r => sOwn (σ 1) c r h = k) (W := (σ 1 0).toNat) (D := (σ 1 1).toNat) (E1 := fun c n => E_X12_estateOf_5 G k h n c σ (fun x s => x = sEst (σ 1) k h ∧ s = σ)) (E2 := fun c r n => E_X12_estateOf_19 G k h n c r σ (fun x s => x = sEst (σ 1) k h ∧ s = σ)) (X := True) (fun c n hc hn ih => S_X12_estateOf_5 ?_) (fun c r n hc hr h1 h2 => S_X12_estateOf_19 ?_)
  · exact ⟨by omega, by omega, fun q => ⟨hn (by omega), rfl⟩, fun q => ih (by omega)⟩
  · have o := sOwn_r (v := σ 1) (c := c) (r := r) (h := h) w
    refine ⟨by omega, by omega, fun q => h1 (by omega), fun q => ⟨⟨w, by omega, by omega, hh⟩, by omega, hk, fun z => ?_, fun z => ?_⟩⟩
    · have := h2 (by omega); rw [kb_0 z] at this; exact this
    · have := h2 (by omega); rw [kb_1 z] at this; exact this
def sSide (c r c2 r2 x y : Int) : Int := if 0 < (c2 - c) * (y - r) - (r2 - r) * (x - c) then 1 else if (c2 - c) * (y - r) - (r2 - r) * (x - c) < 0 then -1 else 0
theorem sSide_r {c r c2 r2 x y : Int} : -1 ≤ sSide c r c2 r2 x y ∧ sSide c r c2 r2 x y ≤ 1 := by unfold sSide; split <;> (try split) <;> omega
theorem mul_ab {a b : Int} (h1 : -30 ≤ a ∧ a ≤ 30) (h2 : -30 ≤ b ∧ b ≤ 30) : -900 ≤ a * b ∧ a * b ≤ 900 := by
  have e : (a + 30) * (b + 30) = a * b + 30 * a + 30 * b + 900 := by rw [Int.add_mul, Int.mul_add, Int.mul_add]; omega
  have e2 : (30 - a) * (b + 30) = 30 * b + 900 - a * b - 30 * a := by rw [Int.sub_mul, Int.mul_add, Int.mul_add]; omega
  have e3 : (a + 30) * (30 - b) = 30 * a + 900 - a * b - 30 * b := by rw [Int.add_mul, Int.mul_sub, Int.mul_sub]; omega
  have e4 : (30 - a) * (30 - b) = 900 - 30 * b - 30 * a + a * b := by rw [Int.sub_mul, Int.mul_sub, Int.mul_sub]; omega
  have f1 := Int.mul_nonneg (a := a + 30) (b := b + 30) (by omega) (by omega)
  have f2 := Int.mul_nonneg (a := 30 - a) (b := b + 30) (by omega) (by omega)
  have f3 := Int.mul_nonneg (a := a + 30) (b := 30 - b) (by omega) (by omega)
  have f4 := Int.mul_nonneg (a := 30 - a) (b := 30 - b) (by omega) (by omega)
  omega
abbrev nr (x : Int) : Prop := -10 ≤ x ∧ x ≤ 19
theorem P_X12_side {G : Kg} {σ : Kmem} {l0 l1 l2 l3 l4 l5 : Int} (p : (nr l0 ∧ nr l1 ∧ nr l2) ∧ nr l3 ∧ nr l4 ∧ nr l5) : Run G WM M_X12_side 0 0 0 [vI l0, vI l1, vI l2, vI l3, vI l4, vI l5] σ (fun x s => x = sSide l0 l1 l2 l3 l4 l5 ∧ s = σ) := by
  obtain ⟨⟨⟨_, _⟩, ⟨_, _⟩, ⟨_, _⟩⟩, ⟨_, _⟩, ⟨_, _⟩, ⟨_, _⟩⟩ := p
  have m1 := mul_ab (a := l2 - l0) (b := l5 - l1) (by omega) (by omega)
  have m2 := mul_ab (a := l3 - l1) (b := l4 - l0) (by omega) (by omega)
  refine S_X12_side ⟨by omega, fun h => ⟨fun h2 => ⟨?_, rfl⟩, fun h2 => ⟨?_, rfl⟩⟩, fun h => ⟨?_, rfl⟩⟩
  · unfold sSide; rw [if_neg (by omega), if_neg (by omega)]
  · unfold sSide; rw [if_neg (by omega), if_pos h2]
  · unfold sSide; rw [if_pos h]
/-- the string of b lies on both sides of that of a -/
def sPts (v : Int → Int) (a b h : Int) : Prop := sSide (v (34 + 9 * a)) (v (34 + 9 * a + 1)) (sCol v a h) (sRow v a h) (v (34 + 9 * b)) (v (34 + 9 * b + 1)) * sSide (v (34 + 9 * a)) (v (34 + 9 * a + 1)) (sCol v a h) (sRow v a h) (sCol v b h) (sRow v b h) < 0
theorem mul_11 {a b : Int} (h1 : -1 ≤ a ∧ a ≤ 1) (h2 : -1 ≤ b ∧ b ≤ 1) : -1 ≤ a * b ∧ a * b ≤ 1 := by
  rcases (show a = -1 ∨ a = 0 ∨ a = 1 by omega) with rfl | rfl | rfl <;> omega
theorem P_X12_parts {G : Kg} {σ : Kmem} {a b h : Int} (p : wf (σ 1) ∧ sKt (σ 1) a ∧ sKt (σ 1) b ∧ sHr h) : Run G WM M_X12_parts 4 0 0 [vA G 0, vI a, vI b, vI h] σ (fun x s => x = kb (sPts (σ 1) a b h) ∧ s = σ) := by
  obtain ⟨w, ha, hb, hh⟩ := p
  have w1 := wf_h w
  have ka := w.2.2.1 a ha.1 ha.2
  have kb' := w.2.2.1 b hb.1 hb.2
  have c1 := sCol_r w ha hh
  have c2 := sRow_r w ha hh
  have c3 := sCol_r w hb hh
  have c4 := sRow_r w hb hh
  have ha1 := ha.1
  have ha2 := ha.2
  have hb1 := hb.1
  have hb2 := hb.2
  have z1 : ∀ x : Int, x + 0 = x := Int.add_zero
  refine S_X12_parts ⟨by omega, by omega, ⟨w, ha, hh⟩, ⟨w, ha, hh⟩, by omega, by omega, Run.mono (P_X12_side ⟨⟨by rw [z1]; omega, by omega, by omega⟩, by omega, by rw [z1]; omega, by omega⟩) (fun r s z => ?_)⟩
  obtain ⟨rfl, rfl⟩ := z
  refine ⟨by omega, by omega, ⟨w, ha, hh⟩, ⟨w, ha, hh⟩, ⟨w, hb, hh⟩, ⟨w, hb, hh⟩, Run.mono (P_X12_side ⟨⟨by rw [z1]; omega, by omega, by omega⟩, by omega, by omega, by omega⟩) (fun r s z => ?_)⟩
  obtain ⟨rfl, rfl⟩ := z
  rw [z1, z1]
  have m := mul_11 (a := sSide (s 1 (34 + 9 * a)) (s 1 (34 + 9 * a + 1)) (sCol (s 1) a h) (sRow (s 1) a h) (s 1 (34 + 9 * b)) (s 1 (34 + 9 * b + 1))) (b := sSide (s 1 (34 + 9 * a)) (s 1 (34 + 9 * a + 1)) (sCol (s 1) a h) (sRow (s 1) a h) (sCol (s 1) b h) (sRow (s 1) b h)) sSide_r sSide_r
  refine ⟨by omega, fun q => ⟨(kb_0 (fun z => ?_)).symm, rfl⟩, fun q => ⟨(kb_1 q).symm, rfl⟩⟩
  unfold sPts at z; omega
def sX (v : Int → Int) (a b h : Int) : Prop := (sUp v a h ∧ sUp v b h) ∧ sPts v a b h ∧ sPts v b a h
theorem P_X12_doCross {G : Kg} {σ : Kmem} {a b h : Int} (p : wf (σ 1) ∧ sKt (σ 1) a ∧ sKt (σ 1) b ∧ sHr h) : Run G WM M_X12_doCross 5 0 0 [vA G 0, vI a, vI b, vI h] σ (fun x s => x = kb (sX (σ 1) a b h) ∧ s = σ) := by
  obtain ⟨w, ha, hb, hh⟩ := p
  refine S_X12_doCross ⟨⟨w, ha, hh⟩, fun q => ⟨(kb_0 (fun z => q z.1.1)).symm, rfl⟩, fun q1 => ⟨⟨w, hb, hh⟩, fun q => ⟨(kb_0 (fun z => q z.1.2)).symm, rfl⟩, fun q2 => Run.mono (P_X12_parts ⟨w, ha, hb, hh⟩) (fun r s z => ?_)⟩⟩
  obtain ⟨rfl, rfl⟩ := z
  refine ⟨kb_r _, fun q => ⟨(kb_0 (fun z => kb_f q z.2.1)).symm, rfl⟩, fun q3 => Run.mono (P_X12_parts ⟨w, hb, ha, hh⟩) (fun r s z => ?_)⟩
  obtain ⟨rfl, rfl⟩ := z
  exact ⟨kb_r _, fun q => ⟨(kb_0 (fun z => kb_f q z.2.2)).symm, rfl⟩, fun q => ⟨(kb_1 ⟨⟨q1, q2⟩, kb_t q3, kb_t q⟩).symm, rfl⟩⟩
theorem P_X12_stepsTo {G : Kg} {σ : Kmem} {t c r : Int} (p : wf (σ 1) ∧ (0 ≤ t ∧ t < σ 1 4) ∧ (0 ≤ c ∧ c ≤ 100) ∧ 0 ≤ r ∧ r ≤ 100) : Run G WM M_X12_stepsTo 1 0 0 [vA G 0, vI t, vI c, vI r] σ (fun x s => x = kabs (σ 1 (120 + 5 * t) - c) + kabs (σ 1 (120 + 5 * t + 1) - r) ∧ s = σ) := by
  obtain ⟨w, ⟨t1, t2⟩, hc, hr⟩ := p
  have w1 := wf_h w
  have a := w.2.2.2.2 t t1 t2
  exact S_X12_stepsTo ⟨by omega, by omega, by omega, by omega, rfl, rfl⟩
noncomputable def sStrip (v : Int → Int) (k c r : Int) : Int := kfor (fun h n => n + kb (sShd v k c r h)) 12 0
theorem sStrip_r {v : Int → Int} {k c r : Int} : 0 ≤ sStrip v k c r ∧ sStrip v k c r ≤ 12 := by
  have := kcol_r (p := fun h => sShd v k c r h) (n := 0) 12
  unfold sStrip; omega
theorem P_X12_stripAt {G : Kg} {σ : Kmem} {k c r : Int} (p : wf (σ 1) ∧ sKt (σ 1) k ∧ (0 ≤ c ∧ c ≤ 100) ∧ 0 ≤ r ∧ r ≤ 100) : Run G WM M_X12_stripAt 5 0 0 [vA G 0, vI k, vI c, vI r] σ (fun x s => x = sStrip (σ 1) k c r ∧ s = σ) := by
  obtain ⟨w, hk, hc, hr⟩ := p
  refine S_X12_stripAt ?_
  refine kloop (E := fun i a => E_X12_stripAt_6 G k c r a i σ _) (fun i => kfor (fun h n => n + kb (sShd (σ 1) k c r h)) i 0) 12 (fun i hi ih => S_X12_stripAt_6 ?_)
  refine ⟨by omega, fun q => ⟨?_, rfl⟩, fun q => ⟨⟨w, hk, ⟨by omega, q⟩, hc, hr⟩, fun z => ?_, fun z => ?_⟩⟩
  · have : i = 12 := by omega
    rw [this]; rfl
  · have := ih (by omega); rw [kfor, kb_0 z] at this; exact this
  · have := ih (by omega); rw [kfor, kb_1 z] at this; exact this
