/-! texts: the reference's words -/
theorem i64_bv {a : Nat} : (Int64.ofInt (a : Int)).toBitVec = BitVec.ofNat 64 a := by
  show BitVec.ofInt 64 (a : Int) = _
  exact BitVec.ofInt_natCast 64 a
theorem klor_shl {a c : Nat} (ha : a < 36028797018963968) (hc : c < 256) : klor (klshl a 8) c = ((a * 256 + c : Nat) : Int) := by
  have e8 : (Int32.ofInt 8).toInt64 &&& 63 = (8 : Int64) := by decide
  have e1 : klshl a 8 = ((a * 256 : Nat) : Int) := by
    unfold klshl
    rw [e8]
    show (Int64.toBitVec _).toInt = _
    rw [Int64.toBitVec_shiftLeft, i64_bv]
    have e2 : ((8 : Int64).toBitVec.smod 64) = BitVec.ofNat 64 8 := by decide
    rw [e2]
    have e3 : (BitVec.ofNat 64 a <<< BitVec.ofNat 64 8).toNat = a * 256 := by
      rw [BitVec.shiftLeft_eq', BitVec.toNat_shiftLeft, BitVec.toNat_ofNat, BitVec.toNat_ofNat, Nat.mod_eq_of_lt (a := 8) (by omega), Nat.mod_eq_of_lt (a := a) (by omega), Nat.shiftLeft_eq, Nat.mod_eq_of_lt (by omega)]
    rw [BitVec.toInt_eq_toNat_cond, e3]
    split <;> omega
  rw [e1]
  unfold klor
  show (Int64.toBitVec _).toInt = _
  rw [Int64.toBitVec_or, i64_bv, i64_bv]
  have e4 : (BitVec.ofNat 64 (a * 256) ||| BitVec.ofNat 64 c).toNat = a * 256 + c := by
    rw [BitVec.toNat_or, BitVec.toNat_ofNat, BitVec.toNat_ofNat, Nat.mod_eq_of_lt (by omega), Nat.mod_eq_of_lt (by omega)]
    have := Nat.two_pow_add_eq_or_of_lt (i := 8) hc a
    rw [Nat.mul_comm] at this
    exact this.symm
  rw [BitVec.toInt_eq_toNat_cond, e4]
  split <;> omega
theorem P_X12_nameHere {G : Kg} {σ : Kmem} (p : tok σ ∧ σ 0 12 = 2 ∧ σ 0 14 - σ 0 13 ≤ 8) : Run G WM M_X12_nameHere 1 0 0 [vA G 0] σ (fun x s => x = tNm σ ∧ s = σ) := by
  obtain ⟨h, h2, h8⟩ := p
  have h1 := h.1.1
  have hr := h.2.1
  have sm := h.2.2.2.2.2.1 h2
  refine S_X12_nameHere ?_
  have lp : ∀ (n m : Nat), m + n = (σ 0 14 - σ 0 13).toNat → E_X12_nameHere_7 G (n256 (bA σ) (σ 0 13) m) (σ 0 13 + m) σ (fun x s => x = tNm σ ∧ s = σ) := by
    intro n
    induction n with
    | zero =>
      intro m hm
      refine S_X12_nameHere_7 ⟨by omega, by omega, fun q => ⟨?_, rfl⟩, fun q => by omega⟩
      unfold tNm; rw [show m = (σ 0 14 - σ 0 13).toNat by omega]
    | succ n ih =>
      intro m hm
      have c := sm (σ 0 13 + m) (by omega) (by omega)
      have nr := n256_r (b := bA σ) (s := σ 0 13) m (by omega) (fun i hi => sm _ (by omega) (by omega))
      have pw : (2 : Int) ^ (8 * m) ≤ 72057594037927936 := by
        have : m = 0 ∨ m = 1 ∨ m = 2 ∨ m = 3 ∨ m = 4 ∨ m = 5 ∨ m = 6 ∨ m = 7 := by omega
        rcases this with rfl | rfl | rfl | rfl | rfl | rfl | rfl | rfl <;> decide
      refine S_X12_nameHere_7 ⟨by omega, by omega, fun q => by omega, fun q => ⟨⟨h.1, by omega, by omega⟩, by omega, ?_⟩⟩
      have := ih (m + 1) (by omega)
      rw [show σ 0 13 + ((m + 1 : Nat) : Int) = σ 0 13 + m + 1 by omega, n256] at this
      have e : klor (klshl (n256 (bA σ) (σ 0 13) m) 8) (bA σ (σ 0 13 + m)) = n256 (bA σ) (σ 0 13) m * 256 + bA σ (σ 0 13 + m) := by
        obtain ⟨x, hx⟩ := Int.eq_ofNat_of_zero_le nr.1
        obtain ⟨y, hy⟩ := Int.eq_ofNat_of_zero_le (show 0 ≤ bA σ (σ 0 13 + m) by omega)
        rw [hx, hy, klor_shl (by omega) (by omega)]
        omega
      rw [e]; exact this
  have := lp (σ 0 14 - σ 0 13).toNat 0 (by omega)
  rw [show σ 0 13 + ((0 : Nat) : Int) = σ 0 13 by omega] at this
  exact this
/-- the words: where they begin, how long they are -/
def kwO (n : Nat) : Nat := ([1, 6, 11, 16, 20, 25, 30, 37, 40, 43, 48, 55, 61, 67, 73, 76, 81, 86, 90, 95, 99, 104, 109, 113, 118, 124, 129, 132] : List Nat).getD n 0
def kwL (n : Nat) : Nat := ([4, 4, 4, 3, 4, 4, 6, 2, 2, 4, 6, 5, 5, 5, 2, 4, 4, 3, 4, 3, 4, 4, 3, 4, 5, 4, 2] : List Nat).getD n 0
def kwC (n j : Nat) : Int := ksat 28 ((kwO n + j : Nat) : Int)
theorem kw_next : ∀ n : Nat, n < 27 → kwO n + kwL n + 1 = kwO (n + 1) ∧ kwO (n + 1) ≤ 132 ∧ 2 ≤ kwL n ∧ kwL n ≤ 6 := by decide +kernel
theorem kw_len : kslen 28 = 132 ∧ kwO 27 = 132 ∧ kwO 0 = 1 := by decide +kernel
theorem kw_in : ∀ n : Nat, n < 27 → ∀ j : Nat, j < kwL n → 97 ≤ kwC n j ∧ kwC n j ≤ 122 := by decide +kernel
theorem kw_end : ∀ n : Nat, n < 27 → kwC n (kwL n) = 32 := by decide +kernel
theorem kw_dif : ∀ n : Nat, n < 27 → ∀ m : Nat, m < 27 → n ≠ m → kwL n ≠ kwL m ∨ ∃ j : Nat, j < 6 ∧ j < kwL n ∧ kwC n j ≠ kwC m j := by decide +kernel
/-- the token is the word n -/
def tW (τ : Kmem) (n : Nat) : Prop := τ 0 12 = 2 ∧ τ 0 14 - τ 0 13 = kwL n ∧ ∀ j : Nat, j < kwL n → bA τ (τ 0 13 + j) = kwC n j
noncomputable def tWf (τ : Kmem) : Nat → Nat → Int
  | 0, _ => -1
  | m + 1, n => kif (tW τ n) (n : Int) (tWf τ m (n + 1))
noncomputable def tWi (τ : Kmem) : Int := tWf τ 27 0
theorem tW_one {τ : Kmem} {n m : Nat} (hn : n < 27) (hm : m < 27) (h : tW τ n) (g : tW τ m) : n = m := by
  apply Classical.byContradiction
  intro ne
  rcases kw_dif n hn m hm ne with e | ⟨j, -, j1, j2⟩
  · have := h.2.1; have := g.2.1; omega
  · have := h.2.1
    have := g.2.1
    exact j2 ((h.2.2 j j1).symm.trans (g.2.2 j (by omega)))
theorem tWf_ok {τ : Kmem} : ∀ (m n : Nat), n + m = 27 → (-1 ≤ tWf τ m n ∧ tWf τ m n < 27) ∧ (∀ k : Nat, n ≤ k → k < 27 → (tWf τ m n = k ↔ tW τ k)) ∧ (tWf τ m n = -1 ↔ ∀ k : Nat, n ≤ k → k < 27 → ¬ tW τ k)
  | 0, n, h => by
    show (-1 ≤ (-1 : Int) ∧ (-1 : Int) < 27) ∧ (∀ k : Nat, n ≤ k → k < 27 → ((-1 : Int) = k ↔ tW τ k)) ∧ ((-1 : Int) = -1 ↔ _)
    exact ⟨by decide, fun k a b => by omega, fun _ k a b => by omega, fun _ => rfl⟩
  | m + 1, n, h => by
    have ih := tWf_ok (τ := τ) m (n + 1) (by omega)
    have e : tWf τ (m + 1) n = kif (tW τ n) (n : Int) (tWf τ m (n + 1)) := rfl
    rw [e]
    by_cases q : tW τ n
    · rw [kif_t q]
      refine ⟨by omega, fun k a b => ⟨fun z => ?_, fun z => ?_⟩, ⟨fun z => by omega, fun z => absurd q (z n (by omega) (by omega))⟩⟩
      · have : n = k := by omega
        rw [← this]; exact q
      · have := tW_one (by omega) b q z; omega
    · rw [kif_f q]
      refine ⟨ih.1, fun k a b => ?_, ⟨fun z k a b => ?_, fun z => ih.2.2.2 (fun k a b => z k (by omega) b)⟩⟩
      · by_cases ek : k = n
        · subst ek
          refine ⟨fun z => ?_, fun z => absurd z q⟩
          exfalso
          -- the value is -1 or at least n + 1
          by_cases y : tWf τ m (k + 1) = -1
          · omega
          · have : ¬ ∀ j : Nat, k + 1 ≤ j → j < 27 → ¬ tW τ j := fun w => y (ih.2.2.2 w)
            apply this
            intro j a b w
            have := (ih.2.1 j a b).2 w
            omega
        · exact ih.2.1 k (by omega) b
      · by_cases ek : k = n
        · subst ek; exact q
        · exact ih.2.2.1 z k (by omega) b
theorem tWi_ok {τ : Kmem} : (-1 ≤ tWi τ ∧ tWi τ < 27) ∧ (∀ k : Nat, k < 27 → (tWi τ = k ↔ tW τ k)) ∧ (tWi τ = -1 ↔ ∀ k : Nat, k < 27 → ¬ tW τ k) := by
  have := tWf_ok (τ := τ) 27 0 (by omega)
  exact ⟨this.1, fun k a => this.2.1 k (by omega) a, ⟨fun z k a => this.2.2.1 z k (by omega) a, fun z => this.2.2.2 (fun k _ a => z k a)⟩⟩
theorem P_X12_inWords {G : Kg} {σ : Kmem} (h : tok σ) : Run G WM M_X12_inWords 4 0 0 [vA G 0, vA G (-38)] σ (fun x s => x = tWi σ ∧ s = σ) := by
  have h1 := h.1.1
  have hr := h.2.1
  have hk : kStrs[28]? = some (kStrD 28) := by decide +kernel
  have kl := kw_len
  show Run G WM M_X12_inWords 4 0 0 [vA G 0, vA G (-((10 + 28 : Nat) : Int))] σ (fun x s => x = tWi σ ∧ s = σ)
  refine S_X12_inWords hk ⟨by have := h.2.2.1; omega, fun e2 => ?_, fun n2 => ⟨(tWi_ok.2.2.2 (fun k _ w => n2 w.1)).symm, rfl⟩⟩
  have words : ∀ (m n : Nat), n + m = 27 → (∀ k : Nat, k < n → ¬ tW σ k) → E_X12_inWords_14 G 28 n (kwO n) σ (fun x s => x = tWi σ ∧ s = σ) := by
    intro m
    induction m with
    | zero =>
      intro n hn no
      have : n = 27 := by omega
      subst this
      refine S_X12_inWords_14 hk ⟨by omega, by omega, fun _ => ⟨(tWi_ok.2.2.2 no).symm, rfl⟩, fun q => by omega⟩
    | succ m ih =>
      intro n hn no
      have kn := kw_next n (by omega)
      have next : ¬ tW σ n → E_X12_inWords_14 G 28 ((n : Int) + 1) ((kwO n : Int) + kwL n + 1) σ (fun x s => x = tWi σ ∧ s = σ) := by
        intro nn
        have := ih (n + 1) (by omega) (fun k hk' => by
          by_cases e : k = n
          · rw [e]; exact nn
          · exact no k (by omega))
        rw [← kn.1] at this
        rw [show ((n + 1 : Nat) : Int) = (n : Int) + 1 by omega, show ((kwO n + kwL n + 1 : Nat) : Int) = (kwO n : Int) + kwL n + 1 by omega] at this
        exact this
      refine S_X12_inWords_14 hk ⟨by omega, by omega, fun q => by omega, fun _ => ?_⟩
      have scan : ∀ (r j : Nat), j + r = kwL n → E_X12_inWords_25 G 28 n (kwO n) ((kwO n : Int) + j) σ (fun x s => x = tWi σ ∧ s = σ) := by
        intro r
        induction r with
        | zero =>
          intro j hj
          have ej : j = kwL n := by omega
          subst ej
          have e32 := kw_end n (by omega)
          unfold kwC at e32
          rw [show ((kwO n + kwL n : Nat) : Int) = (kwO n : Int) + kwL n by omega] at e32
          have cmp : ∀ (r j : Nat), j + r = kwL n → ∀ f : Prop, (f ↔ (σ 0 14 - σ 0 13 = kwL n ∧ ∀ i : Nat, i < j → bA σ (σ 0 13 + i) = kwC n i)) → E_X12_inWords_68 G 28 n (kwO n) ((kwO n : Int) + kwL n) (kb f) ((kwO n : Int) + j) σ (fun x s => x = tWi σ ∧ s = σ) := by
            intro r
            induction r with
            | zero =>
              intro j hj f hf
              refine S_X12_inWords_68 hk ⟨by omega, by omega, fun _ => ⟨kb_r _, fun f0 => next (fun w => kb_f f0 (hf.2 ⟨w.2.1, fun i hi => w.2.2 i (by omega)⟩)), fun f1 => ⟨?_, rfl⟩⟩, fun q => by omega⟩
              have := hf.1 (kb_t f1)
              exact ((tWi_ok.2.1 n (by omega)).2 ⟨e2, this.1, fun i hi => this.2 i (by omega)⟩).symm
            | succ r jh =>
              intro j hj f hf
              have kr := ksat_r (i := 28) (k := (kwO n : Int) + j) (by omega)
              have br := bA_r (τ := σ) (k := σ 0 13 + ((kwO n : Int) + j) - kwO n)
              refine S_X12_inWords_68 hk ⟨by omega, by omega, fun q => by omega, fun _ => ⟨kb_r _, fun f0 => ⟨fun _ => next (fun w => kb_f f0 (hf.2 ⟨w.2.1, fun i hi => w.2.2 i (by omega)⟩)), fun f1 => absurd f0 f1⟩, fun f1 => ⟨by omega, ⟨h.1, by omega, by omega⟩, by omega, by omega, fun ne => ?_, fun eq => ?_⟩⟩⟩
              · have := jh (j + 1) (by omega) False ⟨fun z => z.elim, fun z => ?_⟩
                · rw [kb_0 (fun z => z), show ((j + 1 : Nat) : Int) = (j : Int) + 1 by omega, ← Int.add_assoc] at this
                  exact this
                · have q := z.2 j (by omega)
                  unfold kwC at q
                  rw [show ((kwO n + j : Nat) : Int) = (kwO n : Int) + j by omega] at q
                  rw [show σ 0 13 + ((kwO n : Int) + j) - kwO n = σ 0 13 + j by omega] at ne
                  exact ne q.symm
              · have := jh (j + 1) (by omega) True ⟨fun _ => ⟨(hf.1 (kb_t f1)).1, fun i hi => ?_⟩, fun _ => trivial⟩
                · rw [kb_1 trivial, show ((j + 1 : Nat) : Int) = (j : Int) + 1 by omega, ← Int.add_assoc] at this
                  exact this
                · by_cases e : i = j
                  · subst e
                    unfold kwC
                    rw [show ((kwO n + i : Nat) : Int) = (kwO n : Int) + i by omega]
                    rw [show σ 0 13 + ((kwO n : Int) + i) - kwO n = σ 0 13 + i by omega] at eq
                    exact eq.symm
                  · exact (hf.1 (kb_t f1)).2 i (by omega)
          refine S_X12_inWords_25 hk ⟨by omega, by omega, fun _ => ⟨by omega, by omega, fun ne => ?_, fun eq => ?_⟩, fun q => absurd e32 q⟩
          · have := cmp (kwL n) 0 (by omega) False ⟨fun z => z.elim, fun z => ne (by have := z.1; omega)⟩
            rw [kb_0 (fun z => z), show (kwO n : Int) + ((0 : Nat) : Int) = kwO n by omega] at this
            exact this
          · have := cmp (kwL n) 0 (by omega) True ⟨fun _ => ⟨by omega, fun i hi => absurd hi (by omega)⟩, fun _ => trivial⟩
            rw [kb_1 trivial, show (kwO n : Int) + ((0 : Nat) : Int) = kwO n by omega] at this
            exact this
        | succ r jh =>
          intro j hj
          have c := kw_in n (by omega) j (by omega)
          unfold kwC at c
          rw [show ((kwO n + j : Nat) : Int) = (kwO n : Int) + j by omega] at c
          refine S_X12_inWords_25 hk ⟨by omega, by omega, fun q => by omega, fun _ => ?_⟩
          have := jh (j + 1) (by omega)
          rw [show ((j + 1 : Nat) : Int) = (j : Int) + 1 by omega, ← Int.add_assoc] at this
          exact this
      have := scan (kwL n) 0 (by omega)
      rw [show (kwO n : Int) + ((0 : Nat) : Int) = kwO n by omega] at this
      exact this
  have := words 27 0 (by omega) (fun k hk' => absurd hk' (by omega))
  rw [kl.2.2] at this
  exact this
/-- reading goes on: no fault as yet -/
abbrev tk1 (τ : Kmem) : Prop := tok τ ∧ τ 0 18 = 0
abbrev tNa (τ : Kmem) : Prop := τ 0 12 = 2 ∧ τ 0 14 - τ 0 13 ≤ 8 ∧ tWi τ = -1
theorem P_X12_isName {G : Kg} {σ : Kmem} (h : tok σ) : Run G WM M_X12_isName 5 0 0 [vA G 0, vA G (-38)] σ (fun x s => x = kb (σ 0 12 = 2 ∧ σ 0 14 - σ 0 13 ≤ 8 ∧ tWi σ = -1) ∧ s = σ) := by
  have hr := h.2.1
  have h1 := h.1.1
  have hk : kStrs[28]? = some (kStrD 28) := by decide +kernel
  show Run G WM M_X12_isName 5 0 0 [vA G 0, vA G (-((10 + 28 : Nat) : Int))] σ _
  refine S_X12_isName hk ⟨by have := h.2.2.1; omega, fun n => ⟨(kb_0 (fun y => n y.1)).symm, rfl⟩, fun e => ⟨by omega, fun g => ⟨(kb_0 (fun y => by have := y.2.1; omega)).symm, rfl⟩, fun l => Run.mono (P_X12_inWords h) (fun x s z => ?_)⟩⟩
  rw [z.1, z.2]
  have wr := (tWi_ok (τ := σ)).1
  exact ⟨by omega, fun n => ⟨(kb_0 (fun y => n y.2.2)).symm, rfl⟩, fun y => ⟨(kb_1 ⟨e, l, y⟩).symm, rfl⟩⟩
theorem P0_X12_wantWord {G : Kg} {σ : Kmem} {k : Int} (p : tk1 σ ∧ rI k) : Run G WM M_X12_wantWord 5 0 0 [vA G 0, vA G (-38), vI k] σ (fun x s => x = kb (tWi σ = k) ∧ s = kif (tWi σ = k) (tA σ) (tF σ 2)) := by
  obtain ⟨⟨h, h18⟩, hk'⟩ := p
  have hk : kStrs[28]? = some (kStrD 28) := by decide +kernel
  show Run G WM M_X12_wantWord 5 0 0 [vA G 0, vA G (-((10 + 28 : Nat) : Int)), vI k] σ _
  refine S_X12_wantWord hk (Run.mono (P_X12_inWords h) (fun x s z => ?_))
  rw [z.1, z.2]
  have wr := (tWi_ok (τ := σ)).1
  exact ⟨by omega, hk', fun e => ⟨tok_x0 h, by rw [kb_1 e, kif_t e]; exact ⟨rfl, rfl⟩⟩, fun e => ⟨⟨h, by omega, by omega⟩, by rw [kb_0 e, kif_f e]; exact ⟨rfl, rfl⟩⟩⟩
theorem P0_X12_wantSign {G : Kg} {σ : Kmem} {c : Int} (p : tk1 σ ∧ rI c) : Run G WM M_X12_wantSign 2 0 0 [vA G 0, vI c] σ (fun x s => x = kb (σ 0 12 = 4 ∧ σ 0 15 = c) ∧ s = kif (σ 0 12 = 4 ∧ σ 0 15 = c) (tA σ) (tF σ 2)) := by
  obtain ⟨⟨h, h18⟩, hc⟩ := p
  exact S_X12_wantSign ⟨⟨h, hc⟩, fun e => ⟨tok_x0 h, by rw [kb_1 e, kif_t e]; exact ⟨rfl, rfl⟩⟩, fun e => ⟨⟨h, by omega, by omega⟩, by rw [kb_0 e, kif_f e]; exact ⟨rfl, rfl⟩⟩⟩
