/-! texts: what the reference reads, piece by piece: whether it went well, and the memory behind it -/
noncomputable def cWord (k : Int) (τ : Kmem) : Prop × Kmem := kif (tWi τ = k) (True, tA τ) (False, tF τ 2)
noncomputable def cSign (c : Int) (τ : Kmem) : Prop × Kmem := kif (τ 0 12 = 4 ∧ τ 0 15 = c) (True, tA τ) (False, tF τ 2)
noncomputable def cNum (to lo hi : Int) (τ : Kmem) : Prop × Kmem := kif (τ 0 12 = 3) (kif (lo ≤ τ 0 15 ∧ τ 0 15 ≤ hi) (True, tA (kup τ 1 to (τ 0 15))) (False, tF τ 4)) (False, tF τ 2)
noncomputable def cIs (k : Int) (τ : Kmem) : Prop × Kmem := kif (tWi τ = k) (True, tA τ) (False, τ)
/-- the first place of which p holds -/
noncomputable def fst (p : Int → Prop) : Nat → Nat → Int
  | 0, _ => -1
  | m + 1, n => kif (p n) (n : Int) (fst p m (n + 1))
theorem fst_r {p : Int → Prop} : ∀ (m n : Nat), fst p m n = -1 ∨ (((n : Int) ≤ fst p m n ∧ fst p m n < n + m) ∧ p (fst p m n))
  | 0, n => Or.inl rfl
  | m + 1, n => by
    have ih := fst_r (p := p) m (n + 1)
    have e : fst p (m + 1) n = kif (p n) (n : Int) (fst p m (n + 1)) := rfl
    rw [e]
    by_cases q : p n
    · rw [kif_t q]; exact Or.inr ⟨by omega, q⟩
    · rw [kif_f q]
      rcases ih with h | h
      · exact Or.inl h
      · exact Or.inr ⟨by omega, h.2⟩
theorem fst_none {p : Int → Prop} : ∀ (m n : Nat), (fst p m n = -1 ↔ ∀ k : Nat, n ≤ k → k < n + m → ¬ p k)
  | 0, n => ⟨fun _ k a b => by omega, fun _ => rfl⟩
  | m + 1, n => by
    have ih := fst_none (p := p) m (n + 1)
    have e : fst p (m + 1) n = kif (p n) (n : Int) (fst p m (n + 1)) := rfl
    rw [e]
    by_cases q : p n
    · rw [kif_t q]
      exact ⟨fun z => by omega, fun z => absurd q (z n (by omega) (by omega))⟩
    · rw [kif_f q, ih]
      refine ⟨fun z k a b => ?_, fun z k a b => z k (by omega) (by omega)⟩
      by_cases e : k = n
      · rw [e]; exact q
      · exact z k (by omega) (by omega)
theorem fst_ext {p q : Int → Prop} : ∀ (m n : Nat), (∀ k : Nat, n ≤ k → k < n + m → (p k ↔ q k)) → fst p m n = fst q m n
  | 0, _, _ => rfl
  | m + 1, n, h => by
    have e1 : fst p (m + 1) n = kif (p n) (n : Int) (fst p m (n + 1)) := rfl
    have e2 : fst q (m + 1) n = kif (q n) (n : Int) (fst q m (n + 1)) := rfl
    rw [e1, e2, fst_ext m (n + 1) (fun k a b => h k (by omega) (by omega))]
    have := h n (by omega) (by omega)
    by_cases y : p n
    · rw [kif_t y, kif_t (this.1 y)]
    · rw [kif_f y, kif_f (fun z => y (this.2 z))]
/-- the place of the NAME that stands here -/
noncomputable def tFi (τ : Kmem) (base many : Int) : Int := fst (fun k => τ 2 (base + k) = tNm τ) many.toNat 0
def nmR (τ : Kmem) : Prop := ∀ j, 0 ≤ j → j < 120 → rL (τ 2 j)
theorem P_X12_wantWord {G : Kg} {σ : Kmem} {k : Int} (p : tk1 σ ∧ rI k) : Run G WM M_X12_wantWord 5 0 0 [vA G 0, vA G (-38), vI k] σ (fun x s => x = kb ((cWord k σ).1) ∧ s = (cWord k σ).2) := by
  refine Run.mono (P0_X12_wantWord p) (fun x s z => ?_)
  unfold cWord
  by_cases e : tWi σ = k
  · rw [kif_t e] at z ⊢; exact ⟨by rw [z.1, kb_1 e, kb_1 trivial], z.2⟩
  · rw [kif_f e] at z ⊢; exact ⟨by rw [z.1, kb_0 e, kb_0 (fun y => y)], z.2⟩
theorem P_X12_wantSign {G : Kg} {σ : Kmem} {c : Int} (p : tk1 σ ∧ rI c) : Run G WM M_X12_wantSign 2 0 0 [vA G 0, vI c] σ (fun x s => x = kb ((cSign c σ).1) ∧ s = (cSign c σ).2) := by
  refine Run.mono (P0_X12_wantSign p) (fun x s z => ?_)
  unfold cSign
  by_cases e : σ 0 12 = 4 ∧ σ 0 15 = c
  · rw [kif_t e] at z ⊢; exact ⟨by rw [z.1, kb_1 e, kb_1 trivial], z.2⟩
  · rw [kif_f e] at z ⊢; exact ⟨by rw [z.1, kb_0 e, kb_0 (fun y => y)], z.2⟩
theorem tx0_1 {τ : Kmem} {j y : Int} (h : tok τ) : tx0 (kup τ 1 j y) := by
  have f1 : (kup τ 1 j y) 0 = τ 0 := kup_o (by omega)
  have f7 : (kup τ 1 j y) 7 = τ 7 := kup_o (by omega)
  have := tok_x0 h
  unfold tx0 txt at *
  rw [f1, f7]; exact this
theorem P_X12_number {G : Kg} {σ : Kmem} {to lo hi : Int} (p : tk1 σ ∧ (0 ≤ to ∧ to < 3598) ∧ rI lo ∧ rI hi) : Run G WM M_X12_number 2 0 0 [vA G 0, vI to, vI lo, vI hi] σ (fun x s => x = kb ((cNum to lo hi σ).1) ∧ s = (cNum to lo hi σ).2) := by
  obtain ⟨⟨h, h18⟩, hto, hlo, hhi⟩ := p
  have h12 := h.2.2.1
  have h15 := h.2.2.2.2.2.2.2.2
  unfold cNum
  refine S_X12_number ⟨by omega, fun e3 => ⟨h15, hlo, fun lt => ⟨⟨h, by omega, by omega⟩, ?_⟩, fun ge => ⟨hhi, fun le => ⟨hto, fun m9 e9 => ?_⟩, fun gt => ⟨⟨h, by omega, by omega⟩, ?_⟩⟩⟩, fun n3 => ⟨⟨h, by omega, by omega⟩, ?_⟩⟩
  · rw [kif_t e3, kif_f (by omega)]; exact ⟨(kb_0 (fun y => y)).symm, rfl⟩
  · rw [kif_t e3, kif_t ⟨ge, le⟩, e9]; exact ⟨tx0_1 h, (kb_1 trivial).symm, rfl⟩
  · rw [kif_t e3, kif_f (by omega)]; exact ⟨(kb_0 (fun y => y)).symm, rfl⟩
  · rw [kif_f n3]; exact ⟨(kb_0 (fun y => y)).symm, rfl⟩
theorem tNm_r {τ : Kmem} (h : tok τ) (h2 : τ 0 12 = 2) (h8 : τ 0 14 - τ 0 13 ≤ 8) : rL (tNm τ) := by
  have hr := h.2.1
  have sm := h.2.2.2.2.2.1 h2
  have := n256_r (b := bA τ) (s := τ 0 13) (τ 0 14 - τ 0 13).toNat (by omega) (fun i hi => sm _ (by omega) (by omega))
  have pw : ∀ m : Nat, m ≤ 8 → (2 : Int) ^ (8 * m) ≤ 18446744073709551616 := by decide
  have := pw (τ 0 14 - τ 0 13).toNat (by omega)
  unfold tNm
  omega
theorem P_X12_findHere {G : Kg} {σ : Kmem} {base many : Int} (p : (tok σ ∧ σ 0 12 = 2 ∧ σ 0 14 - σ 0 13 ≤ 8) ∧ nmR σ ∧ (0 ≤ base ∧ 0 ≤ many ∧ base + many ≤ 120)) : Run G WM M_X12_findHere 2 0 0 [vA G 0, vI base, vI many] σ (fun x s => x = tFi σ base many ∧ s = σ) := by
  obtain ⟨ht, hn, hb⟩ := p
  refine S_X12_findHere ?_
  have nr := tNm_r ht.1 ht.2.1 ht.2.2
  have lp : ∀ (m k : Nat), k + m = many.toNat → tFi σ base many = fst (fun k => σ 2 (base + k) = tNm σ) m k → E_X12_findHere_2 G base many k σ (fun x s => x = tFi σ base many ∧ s = σ) := by
    intro m
    induction m with
    | zero =>
      intro k hk e
      exact S_X12_findHere_2 ⟨by omega, by omega, fun _ => ⟨e.symm, rfl⟩, fun q => by omega⟩
    | succ m ih =>
      intro k hk e
      have e1 : fst (fun k => σ 2 (base + k) = tNm σ) (m + 1) k = kif (σ 2 (base + (k : Int)) = tNm σ) (k : Int) (fst (fun k => σ 2 (base + k) = tNm σ) m (k + 1)) := rfl
      rw [e1] at e
      refine S_X12_findHere_2 ⟨by omega, by omega, fun q => by omega, fun _ => ⟨by omega, ht, hn _ (by omega) (by omega), nr, fun ne => ?_, fun eq => ⟨?_, rfl⟩⟩⟩
      · rw [kif_f ne] at e
        have := ih (k + 1) (by omega) e
        exact this
      · rw [kif_t eq] at e; exact e.symm
  exact lp many.toNat 0 (by omega) rfl
theorem P_X12_isThere {G : Kg} {σ : Kmem} {k : Int} (p : tk1 σ ∧ rI k) : Run G WM M_X12_isThere 5 0 0 [vA G 0, vI k] σ (fun x s => x = kb ((cIs k σ).1) ∧ s = (cIs k σ).2) := by
  obtain ⟨⟨h, h18⟩, hk⟩ := p
  have wr := (tWi_ok (τ := σ)).1
  unfold cIs
  refine S_X12_isThere ⟨h, by omega, hk, fun e => ⟨tok_x0 h, ?_⟩, fun n => ?_⟩
  · rw [kif_t e]; exact ⟨(kb_1 trivial).symm, rfl⟩
  · rw [kif_f n]; exact ⟨(kb_0 (fun y => y)).symm, rfl⟩
/-- the reference behind a text's end: told is whether it was taken -/
def tTk (τ : Kmem) : Kmem := if τ 0 18 = 0 then kup (kup τ 0 16 (τ 0 18)) 0 2 0 else kup (kup τ 0 16 (τ 0 18)) 0 2 9
theorem P_X12_taken {G : Kg} {σ : Kmem} {g : Int} (p : 0 ≤ σ 0 18 ∧ σ 0 18 ≤ 9) : Run G WM M_X12_taken 1 0 0 [vA G 0, vI g] σ (fun x s => (σ 0 18 = 0 → x = g) ∧ (σ 0 18 ≠ 0 → x = -1) ∧ s = tTk σ) := by
  refine S_X12_taken (fun m1 e1 => ?_)
  have e18 : m1 0 18 = σ 0 18 := by rw [e1, kup_j (by omega)]
  rw [e18]
  unfold tTk
  refine ⟨by omega, fun le => ?_, fun gt => ?_⟩
  · rw [if_pos (by omega), e1]; exact ⟨fun _ => rfl, fun n => by omega, rfl⟩
  · rw [if_neg (by omega), e1]; exact ⟨fun n => by omega, fun _ => rfl, rfl⟩
/-- the text is laid, the first token stands -/
def tB0 (σ : Kmem) (n : Int) : Kmem := kup (kup (kup (kup (kup (kst (kup σ 0 11 n) 7 (fun i => if 0 ≤ i ∧ i < n then σ 6 i else σ 7 i)) 0 10 0) 0 18 0) 0 17 (-1)) 0 14 0) 0 19 0
theorem ki2b_id {a : Int} (h : -128 ≤ a ∧ a ≤ 127) : ki2b a = a := by
  have q : ∀ n : Nat, n < 256 → ki2b ((n : Int) - 128) = (n : Int) - 128 := by decide +kernel
  have := q (a + 128).toNat (by omega)
  rw [show (((a + 128).toNat : Nat) : Int) - 128 = a by omega] at this
  exact this
/-- tape and text as they may be -/
def tpR (σ : Kmem) : Prop := (0 ≤ σ 0 10 ∧ σ 0 10 ≤ 900) ∧ (∀ i, 0 ≤ i → i < 900 → -128 ≤ σ 6 i ∧ σ 6 i ≤ 127) ∧ ∀ i, 0 ≤ i → i < 900 → -128 ≤ σ 7 i ∧ σ 7 i ≤ 127
theorem tB0_v {σ : Kmem} {n : Int} : (tB0 σ n 0 11 = n ∧ tB0 σ n 0 14 = 0 ∧ tB0 σ n 0 18 = 0 ∧ tB0 σ n 0 17 = -1 ∧ tB0 σ n 0 10 = 0) ∧ (tB0 σ n 7 = fun i => if 0 ≤ i ∧ i < n then σ 6 i else σ 7 i) ∧ (∀ x, x ≠ 0 → x ≠ 7 → tB0 σ n x = σ x) ∧ ∀ j, j ≠ 10 → j ≠ 11 → j ≠ 14 → j ≠ 17 → j ≠ 18 → j ≠ 19 → tB0 σ n 0 j = σ 0 j := by
  unfold tB0
  refine ⟨⟨?_, ?_, ?_, ?_, ?_⟩, ?_, fun x h0 h7 => ?_, fun j a b c d e f => ?_⟩
  · rw [kup_j (by omega), kup_j (by omega), kup_j (by omega), kup_j (by omega), kup_j (by omega), kst_ne (by omega), kup_at]
  · rw [kup_j (by omega), kup_at]
  · rw [kup_j (by omega), kup_j (by omega), kup_j (by omega), kup_at]
  · rw [kup_j (by omega), kup_j (by omega), kup_at]
  · rw [kup_j (by omega), kup_j (by omega), kup_j (by omega), kup_j (by omega), kup_at]
  · rw [kup_o (by omega), kup_o (by omega), kup_o (by omega), kup_o (by omega), kup_o (by omega), kst_eq]
  · rw [kup_o h0, kup_o h0, kup_o h0, kup_o h0, kup_o h0, kst_ne h7, kup_o h0]
  · rw [kup_j f, kup_j c, kup_j d, kup_j e, kup_j a, kst_ne (by omega), kup_j b]
theorem tB0_x {σ : Kmem} {n : Int} (h : tpR σ) (hn : 0 ≤ n ∧ n ≤ 900) : tx0 (tB0 σ n) := by
  have v := tB0_v (σ := σ) (n := n)
  unfold tx0 txt
  rw [v.1.1, v.1.2.1, v.2.1]
  refine ⟨⟨hn, fun i a b => ?_⟩, by omega, hn.1⟩
  dsimp only
  split
  · exact h.2.1 i a b
  · exact h.2.2 i a b
theorem P_X12_begins {G : Kg} {σ : Kmem} {n most : Int} (p : tpR σ ∧ rI n ∧ rI most) : Run G WM M_X12_begins 2 0 0 [vA G 0, vI n, vI most] σ (fun x s => x = kb (0 ≤ n ∧ n ≤ σ 0 10 ∧ n ≤ most) ∧ s = kif (0 ≤ n ∧ n ≤ σ 0 10 ∧ n ≤ most) (tA (tB0 σ n)) σ) := by
  obtain ⟨h, hn, hm⟩ := p
  have h1 := h.1
  refine S_X12_begins ⟨hn, fun q => ⟨(kb_0 (by omega)).symm, (kif_f (by omega)).symm⟩, fun q => ⟨by omega, fun q2 => ⟨(kb_0 (by omega)).symm, (kif_f (by omega)).symm⟩, fun q2 => ⟨hm, fun q3 m4 e4 => ?_, fun q3 => ⟨(kb_0 (by omega)).symm, (kif_f (by omega)).symm⟩⟩⟩⟩
  rw [kb_1 ⟨q, q2, q3⟩, kif_t ⟨q, q2, q3⟩]
  refine kloopP (E := fun i τ => E_X12_begins_26 G n i τ (fun x s => x = 1 ∧ s = tA (tB0 σ n))) (fun i τ => τ = kst m4 7 (fun j => if 0 ≤ j ∧ j < (i : Int) then σ 6 j else σ 7 j)) n.toNat (fun i τ hi hI ih => S_X12_begins_26 (l2 := 0) ⟨by omega, by omega, fun z m8 e8 m10 e10 m12 e12 m14 e14 m16 e16 => ?_, fun z => ⟨by omega, by omega, fun m23 e23 => ih (by omega) m23 ?_⟩⟩) ?_
  · have : m16 = tB0 σ n := by
      rw [e16, e14, e12, e10, e8, hI, e4, show ((i : Nat) : Int) = n by omega]; rfl
    rw [this]
    exact ⟨tB0_x h ⟨q, by omega⟩, rfl, rfl⟩
  · rw [e23, hI]
    have e6 : (kst m4 7 (fun j => if 0 ≤ j ∧ j < (i : Int) then σ 6 j else σ 7 j)) 6 i = σ 6 i := by rw [kst_ne (by omega), e4, kup_x (by omega)]
    rw [e6, ki2b_id (h.2.1 i (by omega) (by omega)), kup_st]
    congr 1
    funext j
    unfold ku
    dsimp only
    by_cases e : j = i
    · rw [if_pos e, if_pos (by omega), e]
    · rw [if_neg e]
      by_cases y : 0 ≤ j ∧ j < (i : Int)
      · rw [if_pos y, if_pos (by omega)]
      · rw [if_neg y, if_neg (by omega)]
  · have : (fun j => if 0 ≤ j ∧ j < ((0 : Nat) : Int) then σ 6 j else σ 7 j) = m4 7 := by
      funext j; rw [if_neg (by omega), e4, kup_x (by omega)]
    rw [this, kst_id]
