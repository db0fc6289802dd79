/-! plans: covers -/
theorem cov_mod : ∀ K : Nat, K ≤ 6 → ∀ S : Nat, S < 2 ^ K → ∀ i : Nat, i < 64 → S &&& i = S &&& (i % 2 ^ K) := by decide +kernel
theorem cov_less : ∀ K : Nat, K ≤ 6 → ∀ i : Nat, i < 64 → 2 ^ K ≤ i → kbits (i % 2 ^ K) < kbits i := by decide +kernel
theorem P_X5_isCovering {G : Kg} {σ : Kmem} {set n : Int} (p : (0 ≤ n ∧ n ≤ 20) ∧ ∀ k, 0 ≤ k → k < n → rI (kand (σ 87 k) set)) : Run G WX M_X5_isCovering 0 0 0 [vA G 82, vI set, vI n] σ (fun x s => x = kb (∀ k : Nat, k < n.toNat → kand (σ 87 k) set ≠ 0) ∧ s = σ) := by
  obtain ⟨hn, hr⟩ := p
  refine S_X5_isCovering ?_
  refine kloopP (E := fun i (u : Unit) => E_X5_isCovering_2 G set n i σ (fun x s => x = kb (∀ k : Nat, k < n.toNat → kand (σ 87 k) set ≠ 0) ∧ s = σ)) (fun i _ => ∀ k : Nat, k < i → kand (σ 87 k) set ≠ 0) n.toNat (fun i u hi hI ih => S_X5_isCovering_2 ⟨by omega, by omega, fun q => ⟨(kb_1 (fun k hk => hI k (by omega))).symm, rfl⟩, fun q => ⟨by omega, hr i (by omega) (by omega), fun z => ih (by omega) () (fun k hk => ?_), fun z => ⟨(kb_0 (fun y => y i (by omega) z)).symm, rfl⟩⟩⟩) (τ := ()) (fun k hk => absurd hk (by omega))
  by_cases e : k = i
  · rw [e]; exact z
  · exact hI k (by omega)
theorem sCov_r {v y : Int → Int} {t n h : Int} (i : Nat) : -1 ≤ sCov v y t n h i ∧ sCov v y t n h i < i := by
  refine kfor_inv (P := fun n b => -1 ≤ b ∧ b < (n : Int)) ⟨by decide, by decide⟩ i (fun j a hi z => ?_)
  by_cases q : ((a = -1 ∨ (kbits (j : Int).toNat : Int) < (kbits a.toNat : Int)) ∧ sHits v y t h j n.toNat)
  · rw [kif_t q]; omega
  · rw [kif_f q]; omega
theorem sCov_s {v y : Int → Int} {t n h : Int} (i : Nat) : sCov v y t n h (i + 1) = kif ((sCov v y t n h i = -1 ∨ (kbits (i : Int).toNat : Int) < (kbits (sCov v y t n h i).toNat : Int)) ∧ sHits v y t h i n.toNat) (i : Int) (sCov v y t n h i) := rfl
theorem sCov_min {v y : Int → Int} {t n h : Int} : ∀ (M j : Nat), j < M → sHits v y t h j n.toNat → sCov v y t n h M ≠ -1 ∧ kbits (sCov v y t n h M).toNat ≤ kbits j
  | 0, j, hj, _ => absurd hj (by omega)
  | M + 1, j, hj, hh => by
    rw [sCov_s]
    by_cases q : (sCov v y t n h M = -1 ∨ (kbits (M : Int).toNat : Int) < (kbits (sCov v y t n h M).toNat : Int)) ∧ sHits v y t h M n.toNat
    · rw [kif_t q]
      refine ⟨by omega, ?_⟩
      by_cases e : j = M
      · rw [e]; simp
      · have := sCov_min M j (by omega) hh
        have z := q.1.resolve_left this.1
        omega
    · rw [kif_f q]
      by_cases e : j = M
      · subst e
        have b : ¬ (sCov v y t n h j = -1 ∨ (kbits (j : Int).toNat : Int) < (kbits (sCov v y t n h j).toNat : Int)) := fun z => q ⟨z, hh⟩
        rw [Int.toNat_natCast] at b
        exact ⟨fun z => b (Or.inl z), by omega⟩
      · exact sCov_min M j (by omega) hh
theorem P_X5_seekCover {G : Kg} {σ : Kmem} {a n h t : Int} {v y : Int → Int} (ha : kArX a 21 60) (p : (wf v ∧ skD σ v (sCt v) h) ∧ (sHr h ∧ a ≠ 87) ∧ (1 ≤ n ∧ n ≤ 20) ∧ (∀ k, 0 ≤ k → k < n → σ a k = y (60 * t + k)) ∧ sPl v y t n.toNat) : Run G WX M_X5_seekCover 1 0 0 [vA G 82, vA G a, vI n] σ (fun x s => x = kb (sCov v y t n h (2 ^ (v 2).toNat) ≠ -1) ∧ kfm (fun x => x = 82 ∨ x = 87) s σ ∧ (∀ j, j ≠ 14 → s 82 j = σ 82 j) ∧ s 82 14 = sCov v y t n h (2 ^ (v 2).toNat)) := by
  obtain ⟨⟨w, d⟩, ⟨hh, ha7⟩, hn, hy, hp⟩ := p
  have w1 := wf_h w
  refine S_X5_seekCover ha ?_
  generalize hQ : (fun (x : Int) (s : Kmem) => x = kb (sCov v y t n h (2 ^ (v 2).toNat) ≠ -1) ∧ kfm (fun x => x = 82 ∨ x = 87) s σ ∧ (∀ j, j ≠ 14 → s 82 j = σ 82 j) ∧ s 82 14 = sCov v y t n h (2 ^ (v 2).toNat)) = Q
  have sr : ∀ k : Int, 0 ≤ (sShs v (y (60 * t + k) % 10) (y (60 * t + k) / 10) h : Int) ∧ (sShs v (y (60 * t + k) % 10) (y (60 * t + k) / 10) h : Int) < 64 := fun k => sShs_r w
  refine kloopP (E := fun i τ => E_X5_seekCover_2 G a n i τ Q) (fun i τ => kfm (fun x => x = 87) τ σ ∧ ∀ k : Int, 0 ≤ k → k < i → τ 87 k = (sShs v (y (60 * t + k) % 10) (y (60 * t + k) / 10) h : Int)) n.toNat (fun i τ hi hI ih => S_X5_seekCover_2 ha ⟨by omega, by omega, fun q => ?_, fun q => ?_⟩) ⟨kfm.refl, fun k a b => by omega⟩
  rotate_left
  · have hk := hp i (by omega)
    have e : τ a i = y (60 * t + i) := by rw [hI.1 a ha7]; exact hy i (by omega) (by omega)
    have own := (skD_own w d (c := y (60 * t + i) % 10) (r := y (60 * t + i) / 10) hk.2).1
    have b1 := hk.2.1
    have b2 := hk.2.2
    rw [e]
    refine ⟨by omega, by omega, by omega, by omega, by omega, ih (by omega) _ ⟨kfm_at.trans hI.1, fun k a b => ?_⟩⟩
    by_cases z : k = i
    · rw [z, kup_at, hI.1 62 (by omega)]; exact own
    · rw [kup_j z]; exact hI.2 k a (by omega)
  obtain ⟨f1, s1⟩ := hI
  have ei : (i : Int) = n := by omega
  rw [ei] at s1
  have pw := Nat.pow_le_pow_right (n := 2) (by decide) (show (v 2).toNat ≤ 6 by omega)
  have hits : ∀ (u : Kmem) (j : Nat), u 87 = τ 87 → j < 64 → ((∀ k : Nat, k < n.toNat → kand (u 87 k) (j : Int) ≠ 0) ↔ sHits v y t h j n.toNat) := by
    intro u j hu hj
    rw [hu]
    constructor
    · intro z k hk; have := z k hk; rw [s1 k (by omega) (by omega)] at this; exact this
    · intro z k hk; rw [s1 k (by omega) (by omega)]; exact z k hk
  have hcut : ∀ j : Nat, j < 64 → (sHits v y t h j n.toNat ↔ sHits v y t h ((j % 2 ^ (v 2).toNat : Nat) : Int) n.toNat) := by
    intro j hj
    have key : ∀ k : Nat, kand (sShs v (y (60 * t + k) % 10) (y (60 * t + k) / 10) h : Int) (j : Int) = kand (sShs v (y (60 * t + k) % 10) (y (60 * t + k) / 10) h : Int) ((j % 2 ^ (v 2).toNat : Nat) : Int) := by
      intro k
      have s6 := sr k
      have lt : sShs v (y (60 * t + k) % 10) (y (60 * t + k) / 10) h < 2 ^ (v 2).toNat := kset_lt _
      have ml := Nat.mod_le j (2 ^ (v 2).toNat)
      rw [kand_nat (by omega) (by omega), kand_nat (by omega) (by omega), cov_mod (v 2).toNat (by omega) _ lt j hj]
    constructor
    · intro z k hk; rw [← key k]; exact z k hk
    · intro z k hk; rw [key k]; exact z k hk
  have rk : ∀ (u : Kmem) (j : Nat), u 87 = τ 87 → j < 64 → ∀ k, 0 ≤ k → k < n → rI (kand (u 87 k) (j : Int)) := by
    intro u j hu hj k k0 k1
    have s6 := sr k
    rw [hu, s1 k k0 k1, kand_nat (by omega) (by omega)]
    have := Nat.and_le_left (n := sShs v (y (60 * t + k) % 10) (y (60 * t + k) / 10) h) (m := j)
    omega
  let B : Nat → Int := fun j => sCov v y t n h (min j (2 ^ (v 2).toNat))
  have B0 : B 0 = -1 := by show sCov v y t n h (min 0 _) = -1; rw [Nat.zero_min]; rfl
  refine kloopP (E := fun j (z : Int × Kmem) => E_X5_seekCover_53 G n z.1 j z.2 Q) (fun j z => (kfm (fun x => x = 82) z.2 τ ∧ ∀ m, m ≠ 14 → z.2 82 m = τ 82 m) ∧ z.2 82 14 = B j ∧ (B j = -1 → z.1 = 7) ∧ (B j ≠ -1 → z.1 = (kbits (B j).toNat : Int))) 64 (fun j z hj hI jh => S_X5_seekCover_53 ha ?_) (τ := (7, kup τ 82 14 (-1))) ⟨⟨kfm_at, fun m hm => kup_j hm⟩, by rw [B0]; show kup τ 82 14 (-1) 82 14 = -1; exact kup_at, fun _ => rfl, fun h' => absurd B0 h'⟩
  obtain ⟨⟨f2, g2⟩, b14, b7, bk⟩ := hI
  have br := sCov_r (v := v) (y := y) (t := t) (n := n) (h := h) (min j (2 ^ (v 2).toNat))
  have kbB := kbits_r (a := (B j).toNat)
  have kj := kbits_r (a := j)
  have z1r : rI z.1 := by by_cases e : B j = -1; rw [b7 e]; decide; rw [bk e]; omega
  have u87 : z.2 87 = τ 87 := f2 87 (by omega)
  refine ⟨by omega, fun q => ?_, fun q => Run.mono (P_J6_bitCount_0f7a4 ⟨by omega, by omega⟩) (fun x s e => ?_)⟩
  · have ej : j = 64 := by omega
    have eB : B j = sCov v y t n h (2 ^ (v 2).toNat) := by show sCov _ _ _ _ _ (min j _) = _; rw [Nat.min_eq_right (by omega)]
    rw [eB] at b14
    have fr : kfm (fun x => x = 82 ∨ x = 87) z.2 σ := (f2.wide (fun x e => Or.inl e)).trans (f1.wide (fun x e => Or.inr e))
    have fj : ∀ m, m ≠ 14 → z.2 82 m = σ 82 m := fun m hm => by rw [g2 m hm, f1 82 (by omega)]
    rw [← hQ]
    have rB : rI (z.2 82 14) := by
      rw [b14, ← eB]
      have br' : -1 ≤ B j ∧ B j < ((min j (2 ^ (v 2).toNat) : Nat) : Int) := br
      omega
    refine ⟨rB, fun e => ⟨?_, fr, fj, b14⟩, fun e => ⟨?_, fr, fj, b14⟩⟩
    · rw [b14] at e; exact (kb_0 (fun y => y e)).symm
    · rw [b14] at e; exact (kb_1 e).symm
  · rw [e.1, e.2]
    rw [Int.toNat_natCast]
    have nxt : ∀ z' : Int × Kmem, ((kfm (fun x => x = 82) z'.2 τ ∧ ∀ m, m ≠ 14 → z'.2 82 m = τ 82 m) ∧ z'.2 82 14 = B (j + 1) ∧ (B (j + 1) = -1 → z'.1 = 7) ∧ (B (j + 1) ≠ -1 → z'.1 = (kbits (B (j + 1)).toNat : Int))) → E_X5_seekCover_53 G n z'.1 ((j : Int) + 1) z'.2 Q := fun z' h' => jh (by omega) z' h'
    have same : B (j + 1) = B j → E_X5_seekCover_53 G n z.1 ((j : Int) + 1) z.2 Q := fun h' => nxt z (by rw [h']; exact ⟨⟨f2, g2⟩, b14, b7, bk⟩)
    have hj' : j < 64 := by omega
    have big : 2 ^ (v 2).toNat ≤ j → sHits v y t h j n.toNat → z.1 ≤ (kbits j : Int) := by
      intro hN hh'
      have lt := Nat.mod_lt j (show 0 < 2 ^ (v 2).toNat by have := Nat.one_le_two_pow (n := (v 2).toNat); omega)
      have mm := sCov_min (v := v) (y := y) (t := t) (n := n) (h := h) (2 ^ (v 2).toNat) (j % 2 ^ (v 2).toNat) lt ((hcut j hj').1 hh')
      have eB : B j = sCov v y t n h (2 ^ (v 2).toNat) := by show sCov _ _ _ _ _ (min j _) = _; rw [Nat.min_eq_right hN]
      rw [bk (by rw [eB]; exact mm.1), eB]
      have := cov_less (v 2).toNat (by omega) j hj' hN
      omega
    have eN : 2 ^ (v 2).toNat ≤ j → B (j + 1) = B j := fun hN => by show sCov _ _ _ _ _ (min (j + 1) _) = sCov _ _ _ _ _ (min j _); rw [Nat.min_eq_right hN, Nat.min_eq_right (by omega)]
    have eS : j < 2 ^ (v 2).toNat → B (j + 1) = kif ((B j = -1 ∨ (kbits j : Int) < (kbits (B j).toNat : Int)) ∧ sHits v y t h j n.toNat) (j : Int) (B j) := fun hN => by
      show sCov _ _ _ _ _ (min (j + 1) _) = _
      rw [Nat.min_eq_left (by omega), sCov_s, Int.toNat_natCast]
      show _ = kif ((sCov v y t n h (min j _) = -1 ∨ _ < (kbits (sCov v y t n h (min j _)).toNat : Int)) ∧ _) _ (sCov v y t n h (min j _))
      rw [Nat.min_eq_left (by omega)]
    refine ⟨by omega, z1r, fun le => same ?_, fun lt => Run.mono (P_X5_isCovering ⟨by omega, rk z.2 j u87 hj'⟩) (fun x2 s2 e2 => ?_)⟩
    · by_cases hN : 2 ^ (v 2).toNat ≤ j
      · exact eN hN
      · rw [eS (by omega), kif_f]
        rintro ⟨o, -⟩
        by_cases e : B j = -1
        · rw [b7 e] at le
          have : ∀ i : Nat, i < 64 → kbits i ≤ 6 := by decide +kernel
          have := this j hj'
          omega
        · have o := o.resolve_left e
          rw [bk e] at le; omega
    · rw [e2.1, e2.2, kb_iff (hits z.2 j u87 hj')]
      refine ⟨kb_r _, fun n0 => same ?_, fun n1 => Run.mono (P_J6_bitCount_0f7a4 ⟨by omega, by omega⟩) (fun x3 s3 e3 => ?_)⟩
      · by_cases hN : 2 ^ (v 2).toNat ≤ j
        · exact eN hN
        · rw [eS (by omega), kif_f (fun y => kb_f n0 y.2)]
      · rw [e3.1, e3.2, Int.toNat_natCast]
        have yes := kb_t n1
        have hN : j < 2 ^ (v 2).toNat := by
          apply Classical.byContradiction; intro hN
          have := big (by omega) yes
          omega
        have eq : B (j + 1) = (j : Int) := by
          have o : B j = -1 ∨ (kbits j : Int) < (kbits (B j).toNat : Int) := by
            by_cases e : B j = -1
            · exact Or.inl e
            · rw [bk e] at lt; exact Or.inr lt
          rw [eS hN, kif_t ⟨o, yes⟩]
        refine nxt ((kbits j : Int), kup z.2 82 14 (j : Int)) ⟨⟨kfm_at.trans f2, fun m hm => ?_⟩, ?_, fun h' => by omega, fun _ => by rw [eq, Int.toNat_natCast]⟩
        · show kup z.2 82 14 (j : Int) 82 m = _
          rw [kup_j hm]; exact g2 m hm
        · show kup z.2 82 14 (j : Int) 82 14 = _
          rw [eq]; exact kup_at
