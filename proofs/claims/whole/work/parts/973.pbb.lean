/-! Scanner: small things, words and numbers -/
theorem P_X6_isSign {G : Kg} {σ : Kmem} {c : Int} (p : rI c) : Run G WX M_X6_isSign 0 0 0 [vA G 3, vI c] σ (fun x s => x = kb (cSi c) ∧ s = σ) := by
  refine S_X6_isSign ⟨p, fun q => ⟨(kb_1 (by constructor <;> omega)).symm, rfl⟩, fun q1 => ⟨fun q => ⟨(kb_1 (by constructor <;> omega)).symm, rfl⟩, fun q2 => ⟨fun q => ⟨(kb_1 (by constructor <;> omega)).symm, rfl⟩, fun q3 => ⟨fun q => ⟨(kb_0 (fun z => by have := z.1; have := z.2; omega)).symm, rfl⟩, fun q => ⟨(kb_1 (by constructor <;> omega)).symm, rfl⟩⟩⟩⟩⟩
theorem P_X6_isAtEnd {G : Kg} {σ : Kmem} (p : rI (σ 3 2)) : Run G WX M_X6_isAtEnd 0 0 0 [vA G 3] σ (fun x s => x = kb (σ 3 2 = 0) ∧ s = σ) :=
  S_X6_isAtEnd ⟨p, fun q => ⟨(kb_0 q).symm, rfl⟩, fun q => ⟨(kb_1 q).symm, rfl⟩⟩
theorem P_X6_isSignOf {G : Kg} {σ : Kmem} {c : Int} (p : xT0 σ ∧ rI c) : Run G WX M_X6_isSignOf 0 0 0 [vA G 3, vI c] σ (fun x s => x = kb (σ 3 2 = 4 ∧ σ 4 (σ 3 3) = c) ∧ s = σ) := by
  obtain ⟨⟨h1, h2, h3, h4⟩, hc⟩ := p
  refine S_X6_isSignOf ⟨by constructor <;> omega, fun q => ⟨(kb_0 (fun z => q z.1)).symm, rfl⟩, fun q => ?_⟩
  have := h3 (by omega)
  have b := h4 (σ 3 3) (by omega) (by omega)
  exact ⟨by omega, by constructor <;> omega, hc, fun z => ⟨(kb_0 (fun y => z y.2)).symm, rfl⟩, fun z => ⟨(kb_1 ⟨q, z⟩).symm, rfl⟩⟩
theorem P_X6_fail {G : Kg} {σ : Kmem} {k : Int} (p : rI (σ 3 2)) : Run G WX M_X6_fail 0 0 0 [vA G 3, vI k] σ (fun x s => x = 0 ∧ s = xF σ k) := by
  refine S_X6_fail ⟨p, fun q => ⟨rfl, ?_⟩, fun q => ⟨rfl, ?_⟩⟩
  · unfold xF; rw [if_neg q, kup_j (j := 8) (k := 3) (by omega)]
  · unfold xF; rw [if_pos q, kup_j (j := 8) (k := 3) (by omega)]
theorem strs29 (i : Nat) (h : i < 29) : kStrs[i]? = some (kStrD i) := by
  have L : kStrs.length = 29 := by decide +kernel
  have e := List.getElem?_eq_getElem (l := kStrs) (i := i) (by omega)
  exact kStrs_at e
theorem n32_s {b : Int → Int} {s : Int} {m : Nat} : n32 b s (m + 1) = n32 b s m * 32 + (b (s + m) - 96) := rfl
theorem P_X6_isWord {G : Kg} {σ : Kmem} {a : Int} (p : xT0 σ ∧ isStr a) : Run G WX M_X6_isWord 4 0 0 [vA G 3, vA G a] σ (fun x s => x = kb (xW σ a) ∧ s = σ) := by
  obtain ⟨⟨h1, h2, h3, h4⟩, i, hi, ha⟩ := p
  subst ha
  have L := kslen_r hi
  unfold xW
  rw [sNo_i]
  refine S_X6_isWord (strs29 i hi) ⟨by constructor <;> omega, fun q => ⟨(kb_0 (fun z => q z.1)).symm, rfl⟩, fun q => ⟨by constructor <;> omega, by constructor <;> omega, fun e => ?_, fun e => ⟨(kb_0 (fun z => e z.2.1)).symm, rfl⟩⟩⟩
  refine kloopP (E := fun j τ => E_X6_isWord_28 G i j τ (fun x s => x = kb (σ 3 2 = 2 ∧ kslen i = σ 3 4 - σ 3 3 ∧ ∀ j : Nat, (j : Int) < kslen i → ksat i j = σ 4 (σ 3 3 + j)) ∧ s = σ)) (fun j τ => τ = σ ∧ ∀ n : Nat, n < j → ksat i n = σ 4 (σ 3 3 + n)) (kslen i).toNat (fun j τ hj hI ih => ?_) ⟨rfl, fun n hn => absurd hn (by omega)⟩
  obtain ⟨hI, hJ⟩ := hI
  subst hI
  refine S_X6_isWord_28 (strs29 i hi) ⟨by constructor <;> omega, by constructor <;> omega, fun z => ⟨(kb_1 ⟨q, e, fun n hn => hJ n (by omega)⟩).symm, rfl⟩, fun z => ?_⟩
  have b := h4 (τ 3 3 + j) (by omega) (by omega)
  have r := ksat_r (i := i) (k := (j : Int)) hi
  refine ⟨by omega, by omega, by constructor <;> omega, by constructor <;> omega, fun y => ih (by omega) _ ⟨rfl, fun n hn => ?_⟩, fun y => ⟨(kb_0 (fun w => y (w.2.2 j (by omega)))).symm, rfl⟩⟩
  by_cases en : n = j
  · rw [en]; exact y
  · exact hJ n (by omega)
theorem P_X6_nextWord {G : Kg} {m τ : Kmem} (ht : tRt m τ) (tx : tx0 τ) (h3 : m 3 3 = tS τ) (h4 : m 3 4 = tS τ) (hs : cSm (bA τ (tS τ))) : Run G WX M_X6_nextWord 0 0 0 [vA G 3] m (fun y t => y = 0 ∧ kS jN t m ∧ t 3 2 = 2 ∧ t 3 3 = tS τ ∧ t 3 4 = tE τ ∧ t 3 6 = n32 (bA τ) (tS τ) (tE τ - tS τ).toNat) := by
  have s := (tS_ok tx).1
  have e := tE_ok tx
  obtain ⟨e1, e2⟩ := e.2.2.1 hs
  have lim := e.1
  have t14 := tx.2
  have t11 := tx.1.1
  have lp : ∀ (n : Nat) (t : Kmem), τ 0 11 - t 3 4 < n → kS jN t m → t 3 2 = 2 → t 3 3 = tS τ → (tS τ ≤ t 3 4 ∧ t 3 4 ≤ τ 0 11) → (∀ i, tS τ ≤ i → i < t 3 4 → cSm (bA τ i)) → t 3 6 = n32 (bA τ) (tS τ) (t 3 4 - tS τ).toNat → E_X6_nextWord_10 G t (fun y t => y = 0 ∧ kS jN t m ∧ t 3 2 = 2 ∧ t 3 3 = tS τ ∧ t 3 4 = tE τ ∧ t 3 6 = n32 (bA τ) (tS τ) (tE τ - tS τ).toNat) := by
    intro n
    induction n with
    | zero => intro t a b c d f g k; omega
    | succ n ih =>
      intro t a b c d f g k
      have t31 : t 3 1 = τ 0 11 := (b.2 1 (by omega)).trans ht.1
      have t4 : t 4 = m 4 := b.1 4 (by omega)
      have stop : ¬ cSm (bA τ (t 3 4)) → t 3 4 = tE τ := by
        intro q
        by_cases x : t 3 4 < tE τ
        · exact absurd (e1 _ f.1 x) q
        · by_cases y : tE τ < t 3 4
          · exact absurd (g _ lim.1 y) e2
          · omega
      have done : t 3 4 = tE τ → (0 : Int) = 0 ∧ kS jN t m ∧ t 3 2 = 2 ∧ t 3 3 = tS τ ∧ t 3 4 = tE τ ∧ t 3 6 = n32 (bA τ) (tS τ) (tE τ - tS τ).toNat := fun q => ⟨rfl, b, c, d, q, by rw [k, q]⟩
      refine S_X6_nextWord_10 ⟨by constructor <;> omega, by rw [t31]; constructor <;> omega, fun q => done (stop ?_), fun q => ?_⟩
      · have : bA τ (t 3 4) = -1 := kif_f (by omega)
        rw [this]; omega
      have b4 := tRt_b ht tx.1 (i := t 3 4) (by omega) (by rw [ht.1]; omega)
      rw [t4]
      refine ⟨by omega, by constructor <;> omega, fun q2 => done (stop (by omega)), fun q2 => ⟨by omega, fun q3 => done (stop (by omega)), fun q3 => ⟨by omega, by constructor <;> omega, ?_⟩⟩⟩
      have v4 : (kup (kup t 3 6 (t 3 6 * 32 + (m 4 (t 3 4) - 97 + 1))) 3 4 ((kup t 3 6 (t 3 6 * 32 + (m 4 (t 3 4) - 97 + 1))) 3 4 + 1)) 3 4 = t 3 4 + 1 := by rw [kup_at, kup_j (by omega)]
      refine ih _ (by rw [v4]; omega) ((kS_up (by omega)).trans ((kS_up (by omega)).trans b)) (by rw [kup_j (by omega), kup_j (by omega)]; exact c) (by rw [kup_j (by omega), kup_j (by omega)]; exact d) (by rw [v4]; omega) (fun i i1 i2 => ?_) ?_
      · rw [v4] at i2
        by_cases y : i = t 3 4
        · rw [y]; omega
        · exact g i i1 (by omega)
      · rw [v4, kup_j (by omega), kup_at, k, show (t 3 4 + 1 - tS τ).toNat = (t 3 4 - tS τ).toNat + 1 by omega]
        rw [n32_s, show tS τ + ((t 3 4 - tS τ).toNat : Int) = t 3 4 by omega]
        omega
  refine S_X6_nextWord (lp ((τ 0 11 - tS τ).toNat + 1) _ ?_ ((kS_up (by omega)).trans (kS_up (by omega))) ?_ ?_ ?_ ?_ ?_)
  · rw [kup_j (by omega), kup_j (by omega), h4]; omega
  · rw [kup_j (by omega), kup_at]
  · rw [kup_j (by omega), kup_j (by omega), h3]
  · rw [kup_j (by omega), kup_j (by omega), h4]; omega
  · rw [kup_j (by omega), kup_j (by omega), h4]; intro i a b; omega
  · rw [kup_at, kup_j (by omega), kup_j (by omega), h4, show (tS τ - tS τ).toNat = 0 by omega]; rfl
