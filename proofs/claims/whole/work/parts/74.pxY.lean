theorem msk_0 {A : Int → Int → Prop} {S : Nat} (h : S < 64) : mAble A (fun _ => False) (msk S) ↔ S = 0 := by
  constructor
  · rintro ⟨g, g1, -⟩
    apply Classical.byContradiction
    intro n
    obtain ⟨t, -, ht⟩ := bit_has S h n
    exact (g1 t ⟨by omega, by rw [Int.toNat_natCast]; exact ht⟩).1
  · rintro rfl
    have no : ∀ t, ¬ msk 0 t := fun t h => by have := h.2; rw [Nat.zero_testBit] at this; exact absurd this (by decide)
    exact ⟨fun _ => 0, fun t h => absurd h (no t), fun t s h _ => absurd h (no t)⟩
/-- of the fields ahead of this one -/
abbrev fB (r c : Int) (f : Int) : Prop := r7 f ∧ (f / 10 < r ∨ f / 10 = r ∧ f % 10 < c)
theorem kcn_msk {A : Int → Int → Prop} {F : Int → Prop} {T S : Nat} (hT : T ≤ 6) (hA : ∀ t f, A t f → 0 ≤ t ∧ t < T) (hS : S < 64) (h : mAble A F (msk S)) : kcn (msk S) T = (kbits S : Int) := by
  obtain ⟨g, g1, -⟩ := h
  rw [← kbits_kset T hT]
  congr 2
  apply Nat.eq_of_testBit_eq
  intro i
  by_cases hi : i < 6
  · by_cases b : S.testBit i = true
    · have m : msk S i := ⟨by omega, by rw [Int.toNat_natCast]; exact b⟩
      have := hA _ _ (g1 i m).2
      rw [b]; exact (kset_bit T i).2 ⟨by omega, m⟩
    · have : S.testBit i = false := by simpa using b
      rw [this]
      have n : ¬ ((kset (msk S) T).testBit i = true) := fun z => b (by have := ((kset_bit T i).1 z).2.2; rw [Int.toNat_natCast] at this; exact this)
      simpa using n
  · rw [bit_big hS (by omega), bit_big (Nat.lt_of_lt_of_le (kset_lt T) (Nat.pow_le_pow_right (n := 2) (by decide) hT)) (by omega)]
theorem P_X5_mostSettled {G : Kg} {σ : Kmem} {st : Int} {v : Int → Int} (p : (wf v ∧ kco σ 31 v) ∧ (0 ≤ st ∧ st ≤ 20)) : Run G WX M_X5_mostSettled 4 0 0 [vA G 82, vI st] σ (fun x s => isMost v st x ∧ kfm (fun x => (58 ≤ x ∧ x ≤ 63) ∨ x = 88) s σ) := by
  obtain ⟨⟨w, kk⟩, hs⟩ := p
  have hc : isC 31 := Or.inr (Or.inl rfl)
  have w1 := wf_h w
  have kh := kco_h kk
  refine S_X5_mostSettled ⟨by omega, ?_⟩
  rw [kh.2.1]
  refine Run.mono (P_X8_look hc ⟨w, kk, by omega, by omega⟩) (fun x s0 z => ?_)
  obtain ⟨-, f0, k0, -, d0⟩ := z
  have k0h := kco_h k0
  generalize hQ : (fun (x : Int) (s : Kmem) => isMost v st x ∧ kfm (fun x => (58 ≤ x ∧ x ≤ 63) ∨ x = 88) s σ) = Q
  refine kloopP (E := fun i τ => E_X5_mostSettled_20 G st i τ Q) (fun i τ => kfm (fun x => x = 88) τ s0 ∧ ∀ S : Nat, S < i → τ 88 S = kb (mAble (sFor v st) (fun _ => False) (msk S))) 64 (fun i τ hi hI ih => S_X5_mostSettled_20 ⟨by omega, fun q => ?_, fun q => ⟨fun n => ⟨by omega, ih (by omega) _ ⟨kfm_at.trans hI.1, fun S hS => ?_⟩⟩, fun n => ⟨by omega, ih (by omega) _ ⟨kfm_at.trans hI.1, fun S hS => ?_⟩⟩⟩⟩) ⟨kfm.refl, fun S hS => absurd hS (by omega)⟩
  rotate_left
  · by_cases e : S = i
    · rw [e, kup_at]; exact (kb_0 (fun y => by have := (msk_0 (by omega)).1 y; omega)).symm
    · rw [kup_j (by omega)]; exact hI.2 S (by omega)
  · by_cases e : S = i
    · rw [e, kup_at]; exact (kb_1 ((msk_0 (by omega)).2 (by omega))).symm
    · rw [kup_j (by omega)]; exact hI.2 S (by omega)
  obtain ⟨f1, m1⟩ := hI
  have e64 : i = 64 := by omega
  subst e64
  refine kloopP (E := fun r τ => E_X5_mostSettled_52 G st r τ Q) (fun r τ => kfm (fun x => x = 88) τ s0 ∧ ∀ S : Nat, S < 64 → τ 88 S = kb (mAble (sFor v st) (fB r 0) (msk S))) (v 1).toNat (fun r τ hr hI ih => S_X5_mostSettled_52 ?_) ⟨f1, fun S hS => by rw [m1 S hS]; exact kb_iff (mAble_F (fun t f h => ⟨fun z => z.elim, fun z => by have := h.2.1; omega⟩))⟩
  obtain ⟨f2, m2⟩ := hI
  have g1 : τ 31 1 = v 1 := by rw [f2 31 (by omega)]; exact k0h.1.2.1
  refine ⟨by omega, by omega, fun q => ?_, fun q => ?_⟩
  · have er : (r : Int) = v 1 := by omega
    have all : ∀ S : Nat, mAble (sFor v st) (fB r 0) (msk S) ↔ mAble (sFor v st) r7 (msk S) := fun S => mAble_F (fun t f h => ⟨fun z => z.1, fun z => ⟨z, by have := h.2.2.1.2.2; omega⟩⟩)
    have hA : ∀ t f, sFor v st t f → 0 ≤ t ∧ t < (((v 4).toNat : Nat) : Int) := fun t f h => by have := h.1; omega
    refine kloopP (E := fun i (z : Int) => E_X5_mostSettled_99 G z i τ Q) (fun i z => (∃ S : Nat, S < 64 ∧ mAble (sFor v st) r7 (msk S) ∧ (kbits S : Int) = z) ∧ ∀ S : Nat, S < i → mAble (sFor v st) r7 (msk S) → (kbits S : Int) ≤ z) 64 (fun i z hi hI jh => S_X5_mostSettled_99 (l1 := 0) ?_) (τ := 0) ⟨⟨0, by omega, ?_, by decide⟩, fun S hS => absurd hS (by omega)⟩
    · obtain ⟨⟨S, s1, s2, s3⟩, up⟩ := hI
      have z8 := kbits_r (a := S)
      have i8 := kbits_r (a := i)
      refine ⟨by omega, fun q2 => ?_, fun q2 => ⟨by omega, ?_, fun n0 => jh (by omega) z ⟨⟨S, s1, s2, s3⟩, fun S' h h' => ?_⟩, fun n1 => Run.mono (P_J6_bitCount_0f7a4 ⟨by omega, by omega⟩) (fun x s y => ?_)⟩⟩
      · rw [← hQ]
        refine ⟨⟨⟨msk S, s2, by rw [kcn_msk (by omega) hA s1 s2]; exact s3⟩, fun X hX => ?_⟩, (f2.wide (fun x e => Or.inr e)).trans (f0.wide (fun x e => Or.inl e))⟩
        have lt : kset X (v 4).toNat < 64 := Nat.lt_of_lt_of_le (kset_lt _) (Nat.pow_le_pow_right (n := 2) (by decide) (by omega : (v 4).toNat ≤ 6))
        rw [← kbits_kset (v 4).toNat (by omega)]
        refine up _ (by omega) ((mAble_X (fun t => ?_)).1 hX)
        obtain ⟨g, g1', -⟩ := hX
        constructor
        · intro y
          have := (g1' t y).2.1
          obtain ⟨n, rfl⟩ := Int.eq_ofNat_of_zero_le this.1
          exact ⟨by omega, by rw [Int.toNat_natCast]; exact (kset_bit _ n).2 ⟨by omega, y⟩⟩
        · intro y
          have y1 := y.1
          obtain ⟨n, rfl⟩ := Int.eq_ofNat_of_zero_le y1
          have := y.2
          rw [Int.toNat_natCast] at this
          exact ((kset_bit _ n).1 this).2
      · rw [m2 i (by omega)]; exact kb_r _
      · rw [m2 i (by omega)] at n0
        by_cases e : S' = i
        · subst e; exact absurd ((all _).2 h') (kb_f n0)
        · exact up S' (by omega) h'
      · rw [y.1, y.2, Int.toNat_natCast]
        rw [m2 i (by omega)] at n1
        have yes := (all _).1 (kb_t n1)
        refine ⟨⟨by omega, by omega⟩, jh (by omega) (max z (kbits i)) ⟨?_, fun S' h h' => ?_⟩⟩
        · by_cases e : z ≤ (kbits i : Int)
          · exact ⟨i, by omega, yes, by omega⟩
          · exact ⟨S, s1, s2, by omega⟩
        · by_cases e : S' = i
          · subst e; omega
          · have := up S' (by omega) h'; omega
    · obtain ⟨g, g1, g2⟩ := (msk_0 (A := sFor v st) (S := 0) (by omega)).2 rfl
      exact ⟨g, fun t ht => False.elim (g1 t ht).1, g2⟩
  · refine kloopP (E := fun c u => E_X5_mostSettled_65 G st r c u Q) (fun c u => kfm (fun x => x = 88) u s0 ∧ ∀ S : Nat, S < 64 → u 88 S = kb (mAble (sFor v st) (fB r c) (msk S))) (v 0).toNat (fun c u hcc hJ jh => S_X5_mostSettled_65 ?_) ⟨f2, m2⟩
    obtain ⟨f3, m3⟩ := hJ
    have g0 : u 31 0 = v 0 := by rw [f3 31 (by omega)]; exact k0h.1.1
    refine ⟨by omega, by omega, fun q2 => ih (by omega) u ⟨f3, fun S hS => ?_⟩, fun q2 => ?_⟩
    · rw [m3 S hS]
      exact kb_iff (mAble_F (fun t f h => ⟨fun z => ⟨z.1, by omega⟩, fun z => ⟨z.1, by have := h.2.2.1.1.2; omega⟩⟩))
    · have hf : sFld v (c : Int) (r : Int) := ⟨⟨by omega, by omega⟩, by omega, by omega⟩
      refine Run.mono (P_X5_offerField (F := fB r c) ⟨⟨w, kco_kfm w k0 f3 (fun x a b e => by omega)⟩, hf, hs, ?_, fun h => by omega, m3⟩) (fun x s y => ?_)
      · rw [f3 63 (by omega)]; exact (skD_own w d0 hf).2
      · obtain ⟨-, y2, y3⟩ := y
        refine jh (by omega) s ⟨y2.trans f3, fun S hS => ?_⟩
        rw [y3 S hS]
        exact kb_iff (mAble_F (fun t f h => ⟨fun z => by omega, fun z => by omega⟩))
