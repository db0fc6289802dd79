/-! counts of the sky -/
theorem P_J6_bitCount_0f7a4 {G : Kg} {σ : Kmem} {a : Int} (p : 0 ≤ a ∧ a < 64) : Run G WX M_J6_bitCount_0f7a4 0 0 0 [vI a] σ (fun x s => x = (kbits a.toNat : Int) ∧ s = σ) := by
  refine S_J6_bitCount_0f7a4 ⟨?_, rfl⟩
  obtain ⟨n, rfl⟩ := Int.eq_ofNat_of_zero_le p.1
  have h : n < 64 := by omega
  clear p
  revert n
  decide +kernel
/-- 63 fields in a row are a grid of 9 by 7 -/
theorem kcnt_flat {p : Int → Int → Prop} : kfor (fun f n => n + kb (p (f % 9) (f / 9))) 63 0 = kcnt p 9 7 := by
  unfold kcnt
  simp only [kfor]
  simp only [Int.cast_ofNat_Int, Int.reduceMod, Int.reduceDiv]
  omega
theorem kcol_cut {p : Int → Prop} {D : Nat} {n : Int} (h : ∀ r, p r → r < (D : Int)) : ∀ m : Nat, kfor (fun r n => n + kb (p r)) (D + m) n = kfor (fun r n => n + kb (p r)) D n
  | 0 => rfl
  | m + 1 => by
    show kfor (fun r n => n + kb (p r)) (D + m) n + kb (p ((D + m : Nat) : Int)) = _
    rw [kb_0 (fun q => by have := h _ q; omega), kcol_cut h m]; omega
theorem kcnt_cut {p : Int → Int → Prop} {W D W' D' : Nat} (h : ∀ c r, p c r → c < (W : Int) ∧ r < (D : Int)) (hW : W ≤ W') (hD : D ≤ D') : kcnt p W' D' = kcnt p W D := by
  obtain ⟨a, rfl⟩ : ∃ a, W' = W + a := ⟨W' - W, by omega⟩
  obtain ⟨b, rfl⟩ : ∃ b, D' = D + b := ⟨D' - D, by omega⟩
  unfold kcnt
  have e : (fun (c : Int) (n : Int) => kfor (fun r n => n + kb (p c r)) (D + b) n) = fun c n => kfor (fun r n => n + kb (p c r)) D n := by
    funext c n; exact kcol_cut (fun r q => (h c r q).2) b
  rw [e]
  clear e hW hD
  induction a with
  | zero => rfl
  | succ a ih =>
    show kfor (fun r n => n + kb (p ((W + a : Nat) : Int) r)) D (kfor _ (W + a) 0) = _
    rw [ih]
    have z : ∀ r : Int, ¬ p ((W + a : Nat) : Int) r := fun r q => by have := (h _ r q).1; omega
    have : ∀ (m : Nat) (n : Int), kfor (fun r n => n + kb (p ((W + a : Nat) : Int) r)) m n = n := by
      intro m n
      induction m with
      | zero => rfl
      | succ m im => show _ + kb (p _ _) = _; rw [im, kb_0 (z _)]; omega
    exact this D _
theorem kcnt_land {v : Int → Int} {p q : Int → Int → Prop} (w : wf v) (h : ∀ c r, 0 ≤ c → c < 9 → 0 ≤ r → r < 7 → (p c r ↔ sFld v c r ∧ q c r)) : kfor (fun f n => n + kb (p (f % 9) (f / 9))) 63 0 = kcnt q (v 0).toNat (v 1).toNat := by
  have w1 := wf_h w
  have e1 : kfor (fun f n => n + kb (p (f % 9) (f / 9))) 63 0 = kfor (fun f n => n + kb (sFld v (f % 9) (f / 9) ∧ q (f % 9) (f / 9))) 63 0 := by
    have : ∀ n : Nat, n ≤ 63 → kfor (fun f n => n + kb (p (f % 9) (f / 9))) n 0 = kfor (fun f n => n + kb (sFld v (f % 9) (f / 9) ∧ q (f % 9) (f / 9))) n 0 := by
      intro n
      induction n with
      | zero => intro _; rfl
      | succ n ih =>
        intro hn
        show _ + kb _ = _ + kb _
        rw [ih (by omega), kb_iff (h ((n : Int) % 9) ((n : Int) / 9) (by omega) (by omega) (by omega) (by omega))]
    exact this 63 (by omega)
  rw [e1, kcnt_flat (p := fun c r => sFld v c r ∧ q c r), kcnt_cut (W := (v 0).toNat) (D := (v 1).toNat) (fun c r h => by have := h.1; omega) (by omega) (by omega)]
  have cong : ∀ C : Nat, (C : Int) ≤ v 0 → kfor (fun c n => kfor (fun r n => n + kb (sFld v c r ∧ q c r)) (v 1).toNat n) C 0 = kfor (fun c n => kfor (fun r n => n + kb (q c r)) (v 1).toNat n) C 0 := by
    intro C
    induction C with
    | zero => intro _; rfl
    | succ C ih =>
      intro hC
      show kfor _ _ (kfor _ C 0) = kfor _ _ (kfor _ C 0)
      rw [ih (by omega)]
      have : ∀ (D : Nat) (n : Int), (D : Int) ≤ v 1 → kfor (fun r n => n + kb (sFld v (C : Int) r ∧ q (C : Int) r)) D n = kfor (fun r n => n + kb (q (C : Int) r)) D n := by
        intro D n
        induction D with
        | zero => intro _; rfl
        | succ D jh =>
          intro hD
          show _ + kb _ = _ + kb _
          rw [jh (by omega), kb_iff (⟨fun z => z.2, fun z => ⟨⟨⟨by omega, by omega⟩, by omega, by omega⟩, z⟩⟩ : (sFld v (C : Int) (D : Int) ∧ q (C : Int) (D : Int)) ↔ q (C : Int) (D : Int))]
      exact this _ _ (by omega)
  exact cong (v 0).toNat (by omega)
/-- off the land no kite shades -/
theorem sOwI_off {v : Int → Int} {q : Int → Prop} {h f : Int} (hf : ¬ sFld v (f % 9) (f / 9)) : sSetI v q h f (v 2).toNat = 0 ∧ sOwI v q h f (v 2).toNat = -1 := by
  have e : sSetI v q h f (v 2).toNat = 0 := kset_none (fun k hk z => hf z.1)
  refine ⟨e, ?_⟩
  unfold sOwI sOwnN
  rw [e]
  by_cases z : v 6 = 2 ∧ kbits 0 ≠ 1
  · rw [kif_t z]
  · rw [kif_f z]; exact (sBest_none _).2 (fun k hk y => by rw [sIn_nat] at y; simp at y)
theorem skD_all {s : Kmem} {u : Int → Int} {h c r : Int} (w : wf u) (d : skD s u (sCt u) h) (hc : 0 ≤ c ∧ c < 9) (hr : 0 ≤ r ∧ r < 7) : (sFld u c r → s 62 (r * 9 + c) = (sShs u c r h : Int) ∧ s 63 (r * 9 + c) = sOwn u c r h) ∧ (¬ sFld u c r → s 62 (r * 9 + c) = 0 ∧ s 63 (r * 9 + c) = -1) := by
  refine ⟨fun hf => skD_own w d hf, fun hf => ?_⟩
  have dd := d (r * 9 + c) (by omega) (by omega)
  have := sOwI_off (v := u) (q := sCt u) (h := h) (f := r * 9 + c) (by rw [show (r * 9 + c) % 9 = c by omega, show (r * 9 + c) / 9 = r by omega]; exact hf)
  rw [this.1, this.2] at dd
  exact dd
noncomputable def sHad (v : Int → Int) (h : Int) : Int := kcnt (fun c r => sOwn v c r h ≠ -1) (v 0).toNat (v 1).toNat
theorem P_X8_ownedFields {G : Kg} {σ : Kmem} {h : Int} {v : Int → Int} (p : wf v ∧ skD σ v (sCt v) h) : Run G WX M_X8_ownedFields 0 0 0 [vA G 58] σ (fun x s => x = sHad v h ∧ s = σ) := by
  obtain ⟨w, d⟩ := p
  have w1 := wf_h w
  have e : kfor (fun f n => n + kb (σ 63 f ≠ -1)) 63 0 = sHad v h := by
    rw [sHad, ← kcnt_land (v := v) (p := fun c r => σ 63 (r * 9 + c) ≠ -1) w (fun c r a b c' d' => ?_)]
    · congr 1; funext f n; rw [show f / 9 * 9 + f % 9 = f by omega]
    · have := skD_all (c := c) (r := r) w d ⟨a, b⟩ ⟨c', d'⟩
      by_cases z : sFld v c r
      · rw [(this.1 z).2]; exact ⟨fun y => ⟨z, y⟩, fun y => y.2⟩
      · rw [(this.2 z).2]; exact ⟨fun y => absurd rfl y, fun y => absurd y.1 z⟩
  refine S_X8_ownedFields ?_
  refine kloopC (E := fun i n => E_X8_ownedFields_4 G n i σ (fun x s => x = sHad v h ∧ s = σ)) (p := fun f => σ 63 f ≠ -1) (N := 63) (a0 := 0) (fun i n hi hn he h1 h0 h00 => S_X8_ownedFields_4 ?_)
  refine ⟨by omega, fun q => ⟨by rw [he (by omega), e], rfl⟩, fun q => ⟨by omega, ?_, fun z => h00 (by omega) (fun y => y z), fun z => h1 (by omega) z⟩⟩
  have dd := (d i (by omega) (by omega)).2
  have := sOwI_r (v := v) (q := sCt v) (h := h) (f := i) (i := (v 2).toNat)
  omega
theorem P_X8_fieldsOf {G : Kg} {σ : Kmem} {h k : Int} {v : Int → Int} (p : (wf v ∧ skD σ v (sCt v) h) ∧ sKt v k) : Run G WX M_X8_fieldsOf 0 0 0 [vA G 58, vI k] σ (fun x s => x = sEst v k h ∧ s = σ) := by
  obtain ⟨⟨w, d⟩, hk⟩ := p
  have w1 := wf_h w
  have hk1 := hk.1
  have hk2 := hk.2
  have e : kfor (fun f n => n + kb (σ 63 f = k)) 63 0 = sEst v k h := by
    rw [sEst, ← kcnt_land (v := v) (p := fun c r => σ 63 (r * 9 + c) = k) w (fun c r a b c' d' => ?_)]
    · congr 1; funext f n; rw [show f / 9 * 9 + f % 9 = f by omega]
    · have := skD_all (c := c) (r := r) w d ⟨a, b⟩ ⟨c', d'⟩
      by_cases z : sFld v c r
      · rw [(this.1 z).2]; exact ⟨fun y => ⟨z, y⟩, fun y => y.2⟩
      · rw [(this.2 z).2]; exact ⟨fun y => by omega, fun y => absurd y.1 z⟩
  refine S_X8_fieldsOf ?_
  refine kloopC (E := fun i n => E_X8_fieldsOf_4 G k n i σ (fun x s => x = sEst v k h ∧ s = σ)) (p := fun f => σ 63 f = k) (N := 63) (a0 := 0) (fun i n hi hn he h1 h0 h00 => S_X8_fieldsOf_4 ?_)
  refine ⟨by omega, fun q => ⟨by rw [he (by omega), e], rfl⟩, fun q => ⟨by omega, ?_, by omega, fun z => h00 (by omega) z, fun z => h1 (by omega) z⟩⟩
  have dd := (d i (by omega) (by omega)).2
  have := sOwI_r (v := v) (q := sCt v) (h := h) (f := i) (i := (v 2).toNat)
  omega
noncomputable def sDisp (v : Int → Int) (h : Int) : Int := kcnt (fun c r => 1 < (kbits (sShs v c r h) : Int)) (v 0).toNat (v 1).toNat
theorem P_X8_disputedFields {G : Kg} {σ : Kmem} {h : Int} {v : Int → Int} (p : wf v ∧ skD σ v (sCt v) h) : Run G WX M_X8_disputedFields 1 0 0 [vA G 58] σ (fun x s => x = sDisp v h ∧ s = σ) := by
  obtain ⟨w, d⟩ := p
  have w1 := wf_h w
  have e : kfor (fun f n => n + kb (1 < (kbits (σ 62 f).toNat : Int))) 63 0 = sDisp v h := by
    rw [sDisp, ← kcnt_land (v := v) (p := fun c r => 1 < (kbits (σ 62 (r * 9 + c)).toNat : Int)) w (fun c r a b c' d' => ?_)]
    · congr 1; funext f n; rw [show f / 9 * 9 + f % 9 = f by omega]
    · have := skD_all (c := c) (r := r) w d ⟨a, b⟩ ⟨c', d'⟩
      by_cases z : sFld v c r
      · rw [(this.1 z).1, Int.toNat_natCast]; exact ⟨fun y => ⟨z, y⟩, fun y => y.2⟩
      · rw [(this.2 z).1]; exact ⟨fun y => absurd y (by decide), fun y => absurd y.1 z⟩
  refine S_X8_disputedFields ?_
  refine kloopC (E := fun i n => E_X8_disputedFields_4 G n i σ (fun x s => x = sDisp v h ∧ s = σ)) (p := fun f => 1 < (kbits (σ 62 f).toNat : Int)) (N := 63) (a0 := 0) (fun i n hi hn he h1 h0 h00 => S_X8_disputedFields_4 ?_)
  refine ⟨by omega, fun q => ⟨by rw [he (by omega), e], rfl⟩, fun q => ⟨by omega, Run.mono (P_J6_bitCount_0f7a4 ?_) (fun x s z => ?_)⟩⟩
  · have dd := (d i (by omega) (by omega)).1
    have := sSetI_r (v := v) (q := sCt v) (h := h) (f := i) (i := (v 2).toNat) (by omega)
    omega
  · rw [z.1, z.2]
    have := kbits_r (a := (σ 62 (i : Int)).toNat)
    exact ⟨by omega, fun z => h00 (by omega) (by omega), fun z => h1 (by omega) z⟩
/-! copies -/
theorem cp_step {s s' σ : Kmem} {a b n : Int} (h : b ≠ a) (I : kfm (fun x => x = a) s σ ∧ ∀ i, 0 ≤ i → i < n → s a i = σ b i) (e : s' = kup s a n (s b n)) : kfm (fun x => x = a) s' σ ∧ ∀ i, 0 ≤ i → i < n + 1 → s' a i = σ b i := by
  subst e
  refine ⟨(kfm_kup (A := fun x => x = a) rfl).trans I.1, fun i h0 h1 => ?_⟩
  by_cases q : i = n
  · rw [q, kup_at, I.1 b h]
  · rw [kup_j q]; exact I.2 i h0 (by omega)
theorem cp_0 {σ : Kmem} {a b : Int} : kfm (fun x => x = a) σ σ ∧ ∀ i, 0 ≤ i → i < 0 → σ a i = σ b i := ⟨kfm.refl, fun i h g => by omega⟩
theorem P_X3_copy {G : Kg} {σ : Kmem} {a b : Int} (ha : kIsX a 3) (hb : kIsX b 3) (p : b ≠ a ∧ (σ b 9 = 0 ∨ σ b 9 = 1)) : Run G WX M_X3_copy 0 0 0 [vA G a, vA G b] σ (fun x s => x = 0 ∧ kfm (fun x => x = a) s σ ∧ ∀ i, 0 ≤ i → i < 10 → s a i = σ b i) := by
  obtain ⟨h, p⟩ := p
  refine S_X3_copy ha hb (fun s1 e1 s3 e3 s5 e5 s7 e7 s9 e9 s11 e11 s13 e13 s15 e15 s17 e17 => ?_)
  have I := cp_step h (cp_step h (cp_step h (cp_step h (cp_step h (cp_step h (cp_step h (cp_step h (cp_step h cp_0 e1) e3) e5) e7) e9) e11) e13) e15) e17
  refine ⟨by rw [I.1 b h]; exact p, fun s20 e20 => ⟨rfl, ?_⟩⟩
  exact cp_step h I e20
theorem P_X2_copy {G : Kg} {σ : Kmem} {a b : Int} (ha : kIsX a 2) (hb : kIsX b 2) (h : b ≠ a) : Run G WX M_X2_copy 0 0 0 [vA G a, vA G b] σ (fun x s => x = 0 ∧ kfm (fun x => x = a) s σ ∧ ∀ i, 0 ≤ i → i < 5 → s a i = σ b i) :=
  S_X2_copy ha hb (fun s1 e1 s3 e3 s5 e5 s7 e7 s9 e9 => ⟨rfl, cp_step h (cp_step h (cp_step h (cp_step h (cp_step h cp_0 e1) e3) e5) e7) e9⟩)
theorem P_X9_copy {G : Kg} {σ : Kmem} {a b : Int} (ha : kIsX a 9) (hb : kIsX b 9) (h : b ≠ a) : Run G WX M_X9_copy 0 0 0 [vA G a, vA G b] σ (fun x s => x = 0 ∧ kfm (fun x => x = a) s σ ∧ ∀ i, 0 ≤ i → i < 6 → s a i = σ b i) :=
  S_X9_copy ha hb (fun s1 e1 s3 e3 s5 e5 s7 e7 s9 e9 s11 e11 => ⟨rfl, cp_step h (cp_step h (cp_step h (cp_step h (cp_step h (cp_step h cp_0 e1) e3) e5) e7) e9) e11⟩)
