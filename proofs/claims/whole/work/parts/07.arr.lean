section
variable {G : Kg} {w : Kw} {M : Km} {d mc ms pc : Nat} {ls : List (Nat × Value)} {st : List Value} {σ : Kmem} {Q : Int → Kmem → Prop}
theorem knat {i : Int} {n : Nat} (hi : 0 ≤ i ∧ i < n) (hn : n < 2147483648) : (Int32.ofInt i).toNatClampNeg = i.toNat := by
  show (Int32.ofInt i).toInt.toNat = i.toNat
  rw [i32_to (by omega) (by omega)]
theorem kin {i : Int} {n : Nat} (hi : 0 ≤ i ∧ i < n) (hn : n < 2147483648) : vp_in (Int32.ofInt i) n := by
  intro q
  rcases q with q | q
  · rw [i32_0, i32_lt ⟨by omega, by omega⟩ (by decide)] at q; omega
  · rw [knat hi hn] at q; omega
theorem kArC_i {a code : Nat} (h : code = 20 ∨ code = 22 ∨ code = 23) : kArC G w σ a code = .inl (fun j => Int32.ofInt (σ a j)) := by
  unfold kArC
  rw [if_neg (by omega), if_neg (by omega)]
theorem kArC_l {a : Nat} : kArC G w σ a 21 = .inr (.inl (fun j => Int64.ofInt (σ a j))) := rfl
theorem kArC_q {a code : Nat} (h : 24 ≤ code) : kArC G w σ a code = .inr (.inr (.inr (.inr (fun j => kRo G (w.2.1 σ a j))))) := by
  unfold kArC
  rw [if_neg (by omega), if_pos h]
theorem R_iald {a i : Int} (n : Nat) (hd : decode M.2.1 pc = .ok (.iaload, 1)) (ha : kAr w σ a 20 n) (hi : 0 ≤ i ∧ i < n) (kk : Ex G w M d mc ms (pc + 1) ls (vI (σ a i) :: st) σ Q) : Ex G w M d mc ms pc ls (vI i :: vA G a :: st) σ Q := by
  intro p e s m args below meth c H locs cells slots MC MS la F h L hc hs
  have he := kWL_arr (G := G) ha rfl (by omega)
  rw [kArC_i (by omega)] at he
  refine va_iald (D := G.2.2.1) F.1 F.2.1 F.2.2.2.2.2.2.2.1.1 h.1 a.toNat 0 he (kTys_at (G := G) (i := 0) (by omega)) (kin hi ha.2.2) hd ?_
  have q := kk p e s m args below meth c H locs cells slots MC MS la F h L hc hs
  rw [knat hi ha.2.2, kto ha.1.1, kto hi.1]
  exact q
theorem R_bald {a i : Int} (n : Nat) (hd : decode M.2.1 pc = .ok (.baload, 1)) (ha : kAr w σ a 22 n) (hi : 0 ≤ i ∧ i < n) (kk : Ex G w M d mc ms (pc + 1) ls (vI (σ a i) :: st) σ Q) : Ex G w M d mc ms pc ls (vI i :: vA G a :: st) σ Q := by
  intro p e s m args below meth c H locs cells slots MC MS la F h L hc hs
  have he := kWL_arr (G := G) ha rfl (by omega)
  rw [kArC_i (by omega)] at he
  refine va_bald (D := G.2.2.1) F.1 F.2.1 F.2.2.2.2.2.2.2.1.1 h.1 a.toNat 2 he (kTys_at (G := G) (i := 2) (by omega)) (kin hi ha.2.2) hd ?_
  have q := kk p e s m args below meth c H locs cells slots MC MS la F h L hc hs
  rw [knat hi ha.2.2, kto ha.1.1, kto hi.1]
  exact q
theorem R_zald {a i : Int} (n : Nat) (hd : decode M.2.1 pc = .ok (.baload, 1)) (ha : kAr w σ a 23 n) (hi : 0 ≤ i ∧ i < n) (kk : Ex G w M d mc ms (pc + 1) ls (vI (σ a i) :: st) σ Q) : Ex G w M d mc ms pc ls (vI i :: vA G a :: st) σ Q := by
  intro p e s m args below meth c H locs cells slots MC MS la F h L hc hs
  have he := kWL_arr (G := G) ha rfl (by omega)
  rw [kArC_i (by omega)] at he
  refine va_zald (D := G.2.2.1) F.1 F.2.1 F.2.2.2.2.2.2.2.1.1 h.1 a.toNat 3 he (kTys_at (G := G) (i := 3) (by omega)) (kin hi ha.2.2) hd ?_
  have q := kk p e s m args below meth c H locs cells slots MC MS la F h L hc hs
  rw [knat hi ha.2.2, kto ha.1.1, kto hi.1]
  exact q
theorem R_lald {a i : Int} (n : Nat) (hd : decode M.2.1 pc = .ok (.laload, 1)) (ha : kAr w σ a 21 n) (hi : 0 ≤ i ∧ i < n) (kk : Ex G w M d mc ms (pc + 1) ls (vL (σ a i) :: st) σ Q) : Ex G w M d mc ms pc ls (vI i :: vA G a :: st) σ Q := by
  intro p e s m args below meth c H locs cells slots MC MS la F h L hc hs
  have he := kWL_arr (G := G) ha rfl (by omega)
  rw [kArC_l] at he
  refine va_lald (D := G.2.2.1) F.1 F.2.1 F.2.2.2.2.2.2.2.1.1 h.1 a.toNat 1 he (kTys_at (G := G) (i := 1) (by omega)) (kin hi ha.2.2) hd ?_
  have q := kk p e s m args below meth c H locs cells slots MC MS la F h L hc hs
  rw [knat hi ha.2.2, kto ha.1.1, kto hi.1]
  exact q
/-- rows of references: to objects (codes 24 to 29), to rows of ints (30) -/
theorem R_aald {a i : Int} (code n : Nat) (f : Int) (hd : decode M.2.1 pc = .ok (.aaload, 1)) (hcode : 24 ≤ code ∧ code < 30) (ha : kAr w σ a code n) (hi : 0 ≤ i ∧ i < n) (hf : w.2.1 σ a i = f) (hf0 : f ≠ 0) (kk : Ex G w M d mc ms (pc + 1) ls (vA G f :: st) σ Q) : Ex G w M d mc ms pc ls (vI i :: vA G a :: st) σ Q := by
  intro p e s m args below meth c H locs cells slots MC MS la F h L hc hs
  have he := kWL_arr (G := G) ha rfl (by omega)
  rw [kArC_q (by omega)] at he
  have ht := kTys_at (G := G) (i := code - 20) (by omega)
  rw [show 20 + (code - 20) = code by omega] at ht
  obtain ⟨C, hC⟩ : ∃ C, kaTy (code - 20) = .object C := by
    rcases (show code = 24 ∨ code = 25 ∨ code = 26 ∨ code = 27 ∨ code = 28 ∨ code = 29 by omega) with rfl | rfl | rfl | rfl | rfl | rfl <;> exact ⟨_, rfl⟩
  rw [hC] at ht
  refine va_aldq (D := G.2.2.1) F.1 F.2.1 F.2.2.2.2.2.2.2.1.1 h.1 a.toNat (code - 20) he ht (kin hi ha.2.2) hd ?_
  have q := kk p e s m args below meth c H locs cells slots MC MS la F h L hc hs
  rw [knat hi ha.2.2, kto ha.1.1, kto hi.1, hf]
  have e0 : va_rf (kRo G f) = vA G f := by unfold kRo; rw [if_neg hf0]; rfl
  rw [e0]
  exact q
theorem R_aald2 {a i : Int} (n : Nat) (f : Int) (hd : decode M.2.1 pc = .ok (.aaload, 1)) (ha : kAr w σ a 30 n) (hi : 0 ≤ i ∧ i < n) (hf : w.2.1 σ a i = f) (hf0 : f ≠ 0) (kk : Ex G w M d mc ms (pc + 1) ls (vA G f :: st) σ Q) : Ex G w M d mc ms pc ls (vI i :: vA G a :: st) σ Q := by
  intro p e s m args below meth c H locs cells slots MC MS la F h L hc hs
  have he := kWL_arr (G := G) ha rfl (by omega)
  rw [kArC_q (by omega)] at he
  have ht := kTys_at (G := G) (i := 10) (by omega)
  have hP := h.1 a.toNat _ he
  have hK := F.2.2.2.2.2.2.2.1.1
  have hlt : i.toNat < n := by omega
  refine W.aald (v := vA G f) (ty := .array .int) F.1 F.2.1 hP ((hK.2 10 _ ht).1 n (fun j => va_rf (kRo G (w.2.1 σ (a.toNat : Nat) (j : Nat))))) rfl (fun q => by cases q) (by show ¬ (_ < 0 ∨ (arrV _ _ _).slots.size ≤ _); rw [arrV_size]; exact kin hi ha.2.2) ?_ rfl rfl hd (kk p e s m args below meth c H locs cells slots MC MS la F h L hc hs)
  show (arrV _ _ _).slots[_]? = _
  rw [arrV_read _ _ (by rw [knat hi ha.2.2]; exact hlt), knat hi ha.2.2]
  show some (va_rf (kRo G (w.2.1 σ ((a.toNat : Nat) : Int) ((i.toNat : Nat) : Int)))) = _
  rw [kto ha.1.1, kto hi.1, hf]
  unfold kRo
  rw [if_neg hf0]
  rfl
theorem R_alen {a : Int} (code n : Nat) (v : Int) (hd : decode M.2.1 pc = .ok (.arraylength, 1)) (ha : kAr w σ a code n) (hcode : 20 ≤ code ∧ code < 31) (hv : (n : Int) = v) (kk : Ex G w M d mc ms (pc + 1) ls (vI v :: st) σ Q) : Ex G w M d mc ms pc ls (vA G a :: st) σ Q := by
  subst hv
  intro p e s m args below meth c H locs cells slots MC MS la F h L hc hs
  have he := kWL_arr (G := G) ha rfl (by omega)
  have ht := kTys_at (G := G) (i := code - 20) (by omega)
  rw [show 20 + (code - 20) = code by omega] at ht
  exact va_alen (D := G.2.2.1) F.1 F.2.1 F.2.2.2.2.2.2.2.1.1 h.1 a.toNat (code - 20) he ht (by show Int32.ofNat n = Int32.ofInt n; rfl) hd (kk p e s m args below meth c H locs cells slots MC MS la F h L hc hs)
theorem kA_in {a : Int} {code : Nat} (ha : kIs w σ a code) (hcap : kN w σ ≤ w.2.2.2) : kA G w (kAd G a) := by
  rw [kAd_pos ha.1]
  exact ⟨Nat.le_add_right _ _, Or.inr (Nat.add_lt_add_left (Nat.lt_of_lt_of_le ha.2.1 hcap) _)⟩
/-! stores -/
theorem kSetArr {σ' : Kmem} {a : Int} {code len : Nat} {x : (Nat → Int32) ⊕ (Nat → Int64) ⊕ (Nat → UInt32) ⊕ (Nat → UInt64) ⊕ (Nat → Option Nat)} (ha : kAr w σ a code len) (hc : 20 ≤ code) (h1 : ∀ b k : Nat, b ≠ a.toNat → σ' b k = σ b k) (h2 : ∀ b k : Nat, b ≠ a.toNat → kRef w b k → w.2.1 σ' b k = w.2.1 σ b k) (hx : kArC G w σ' a.toNat code = x) :
    (kWL G w σ (kN w σ)).set a.toNat (kAd G a, .inl (G.2.2.2.1 code, (len, x))) = kWL G w σ' (kN w σ) := by
  rw [kAd_pos ha.1.1]
  refine kWL_set ha.1.2.1 h1 h2 ?_
  unfold kCell
  rw [if_neg (by rw [ha.1.2.2]; omega), ha.1.2.2, ha.2.1, hx]
theorem kStI {a i : Int} {code n : Nat} {v : Int} {s : State} {H H1 : Heap} {locs locs1 : List Loc} {x : Int32} (hw : kOK w) (ha : kAr w σ a code n) (hcode : code = 20 ∨ code = 22 ∨ code = 23) (hi : 0 ≤ i ∧ i < n) (h : kHp G w σ s H locs) (hx : x = Int32.ofInt v) (hz : H1.size = H.size) (hS : va_S (kA G w) s.heap H1 locs1)
    (e1 : H1[kAd G a]? = some ((arrV (G.2.2.2.1 code) n (fun j => Value.int (Int32.ofInt (σ (a.toNat : Nat) (j : Nat))))).setSlot (Int32.ofInt i).toNatClampNeg (.int x))) (oq : ∀ q, q ≠ kAd G a → H1[q]? = H[q]?) : kHp G w (kup σ a i v) s H1 locs1 := by
  have he := kWL_arr (G := G) ha rfl (by omega)
  rw [kArC_i hcode] at he
  have hD : va_D (kA G w) (kWL G w σ (kN w σ)) := kWL_D h.2.1
  have hnr : ¬ kRef w a.toNat i.toNat := fun q => by
    rcases q with ⟨q, -⟩ | q <;> (rw [ha.1.2.2] at q; omega)
  have hr := hw σ a.toNat i.toNat v hnr
  rw [kto ha.1.1, kto hi.1] at hr
  have hP : va_P G.2.2.1 vwCl (kWL G w (kup σ a i v) (kN w σ)) H1 := by
    rw [← kSetArr (G := G) (σ' := kup σ a i v) ha (by omega) (fun b k hb => kup_ne (fun q => hb (by have := ha.1.1; omega))) (fun b k _ hbk => hr b k hbk) rfl, kArC_i hcode]
    refine h.1.set hD he ?_ oq
    show H1[_]? = some (vp_cell _ _)
    rw [e1, vp_cell_i, arrV_store]
    congr 2
    funext j
    rw [knat hi ha.2.2]
    by_cases hj : j = i.toNat
    · subst hj
      simp only [updV, if_true]
      rw [kto ha.1.1, kto hi.1, kup_eq, hx]
    · simp only [updV, if_neg hj]
      rw [kup_ne (fun q => hj (by omega))]
  exact kHp_st h (kN_up ha.1.1) hz hP hS
theorem R_iast {a i v : Int} (n : Nat) (hw : kOK w) (hd : decode M.2.1 pc = .ok (.iastore, 1)) (ha : kAr w σ a 20 n) (hi : 0 ≤ i ∧ i < n) (kk : Ex G w M d mc ms (pc + 1) ls st (kup σ a i v) Q) : Ex G w M d mc ms pc ls (vI v :: vI i :: vA G a :: st) σ Q := by
  intro p e s m args below meth c H locs cells slots MC MS la F h L hc hs
  have he := kWL_arr (G := G) ha rfl (by omega)
  rw [kArC_i (by omega)] at he
  have hK := F.2.2.2.2.2.2.2.1.1
  refine W.iast F.1 F.2.1 (h.1 a.toNat _ he) ((hK.2 0 _ (kTys_at (G := G) (i := 0) (by omega))).1 n (fun j => .int (Int32.ofInt (σ (a.toNat : Nat) (j : Nat))))) (fun q => by cases q) (by show ¬ (_ < 0 ∨ (arrV _ _ _).slots.size ≤ _); rw [arrV_size]; exact kin hi ha.2.2) rfl rfl hd fun H1 e1 z oq => ?_
  exact kk p e s m args below meth c H1 _ cells slots MC MS la F (kStI hw ha (by omega) hi h rfl z (h.2.2.2.put z oq (kA_in ha.1 h.2.1)) e1 oq) L hc hs
theorem R_bast {a i v : Int} (n : Nat) (hw : kOK w) (hd : decode M.2.1 pc = .ok (.bastore, 1)) (ha : kAr w σ a 22 n) (hi : 0 ≤ i ∧ i < n) (kk : Ex G w M d mc ms (pc + 1) ls st (kup σ a i (ki2b v)) Q) : Ex G w M d mc ms pc ls (vI v :: vI i :: vA G a :: st) σ Q := by
  intro p e s m args below meth c H locs cells slots MC MS la F h L hc hs
  have he := kWL_arr (G := G) ha rfl (by omega)
  rw [kArC_i (by omega)] at he
  have hK := F.2.2.2.2.2.2.2.1.1
  refine W.bast F.1 F.2.1 (h.1 a.toNat _ he) ((hK.2 2 _ (kTys_at (G := G) (i := 2) (by omega))).1 n (fun j => .int (Int32.ofInt (σ (a.toNat : Nat) (j : Nat))))) (fun q => by cases q) (by show ¬ (_ < 0 ∨ (arrV _ _ _).slots.size ≤ _); rw [arrV_size]; exact kin hi ha.2.2) rfl rfl hd fun H1 e1 z oq => ?_
  exact kk p e s m args below meth c H1 _ cells slots MC MS la F (kStI hw ha (by omega) hi h (i32_back _).symm z (h.2.2.2.put z oq (kA_in ha.1 h.2.1)) e1 oq) L hc hs
theorem R_zast {a i v : Int} (n : Nat) (hw : kOK w) (hd : decode M.2.1 pc = .ok (.bastore, 1)) (ha : kAr w σ a 23 n) (hi : 0 ≤ i ∧ i < n) (hv : v = 0 ∨ v = 1) (kk : Ex G w M d mc ms (pc + 1) ls st (kup σ a i v) Q) : Ex G w M d mc ms pc ls (vI v :: vI i :: vA G a :: st) σ Q := by
  intro p e s m args below meth c H locs cells slots MC MS la F h L hc hs
  have he := kWL_arr (G := G) ha rfl (by omega)
  rw [kArC_i (by omega)] at he
  have hK := F.2.2.2.2.2.2.2.1.1
  refine W.zast F.1 F.2.1 (h.1 a.toNat _ he) ((hK.2 3 _ (kTys_at (G := G) (i := 3) (by omega))).1 n (fun j => .int (Int32.ofInt (σ (a.toNat : Nat) (j : Nat))))) (fun q => by cases q) (by show ¬ (_ < 0 ∨ (arrV _ _ _).slots.size ≤ _); rw [arrV_size]; exact kin hi ha.2.2) rfl rfl hd fun H1 e1 z oq => ?_
  exact kk p e s m args below meth c H1 _ cells slots MC MS la F (kStI hw ha (by omega) hi h (by rcases hv with rfl | rfl <;> decide +kernel) z (h.2.2.2.put z oq (kA_in ha.1 h.2.1)) e1 oq) L hc hs
theorem R_last {a i v : Int} (n : Nat) (hw : kOK w) (hd : decode M.2.1 pc = .ok (.lastore, 1)) (ha : kAr w σ a 21 n) (hi : 0 ≤ i ∧ i < n) (kk : Ex G w M d mc ms (pc + 1) ls st (kup σ a i v) Q) : Ex G w M d mc ms pc ls (vL v :: vI i :: vA G a :: st) σ Q := by
  intro p e s m args below meth c H locs cells slots MC MS la F h L hc hs
  have he := kWL_arr (G := G) ha rfl (by omega)
  rw [kArC_l] at he
  have hK := F.2.2.2.2.2.2.2.1.1
  have hD : va_D (kA G w) (kWL G w σ (kN w σ)) := kWL_D h.2.1
  refine W.last F.1 F.2.1 (h.1 a.toNat _ he) ((hK.2 1 _ (kTys_at (G := G) (i := 1) (by omega))).1 n (fun j => .long (Int64.ofInt (σ (a.toNat : Nat) (j : Nat))))) (fun q => by cases q) (by show ¬ (_ < 0 ∨ (arrV _ _ _).slots.size ≤ _); rw [arrV_size]; exact kin hi ha.2.2) rfl rfl hd fun H1 e1 z oq => ?_
  have hnr : ¬ kRef w a.toNat i.toNat := fun q => by
    rcases q with ⟨q, -⟩ | q <;> (rw [ha.1.2.2] at q; omega)
  have hr := hw σ a.toNat i.toNat v hnr
  rw [kto ha.1.1, kto hi.1] at hr
  have hP : va_P G.2.2.1 vwCl (kWL G w (kup σ a i v) (kN w σ)) H1 := by
    rw [← kSetArr (G := G) (σ' := kup σ a i v) ha (by omega) (fun b k hb => kup_ne (fun q => hb (by have := ha.1.1; omega))) (fun b k _ hbk => hr b k hbk) rfl, kArC_l]
    refine h.1.set hD he ?_ oq
    show H1[_]? = some (vp_cell _ _)
    rw [e1]
    show some ((arrV _ _ _).setSlot _ _) = _
    rw [vp_cell_l, arrV_store]
    congr 2
    funext j
    rw [knat hi ha.2.2]
    by_cases hj : j = i.toNat
    · subst hj
      simp only [updV, if_true]
      rw [kto ha.1.1, kto hi.1, kup_eq]
    · simp only [updV, if_neg hj]
      rw [kup_ne (fun q => hj (by omega))]
  exact kk p e s m args below meth c H1 _ cells slots MC MS la F (kHp_st h (kN_up ha.1.1) z hP (h.2.2.2.put z oq (kA_in ha.1 h.2.1))) L hc hs
/-! what lies outside -/
theorem kAd_neg {k : Nat} (h : 0 < k) : kAd G (-(k : Int)) = G.2.2.2.2 k := by
  unfold kAd
  rw [if_neg (by omega), Int.neg_neg, Int.toNat_natCast]
theorem R_getsN {idx i : Nat} {nm : String} {vs : List Int32} (f : Int) (hd : decode M.2.1 pc = .ok (.getstatic idx, 3)) (hi : kStA[i]? = some (nm, vs)) (hl : Cond.fieldLinkNest M.1.cls idx "KiteLand" nm "[I" "KiteLand" ∈ kNest) (hf : f = -((1 + i : Nat) : Int)) (kk : Ex G w M d mc ms (pc + 3) ls (vA G f :: st) σ Q) : Ex G w M d mc ms pc ls st σ Q := by
  subst hf
  intro p e s m args below meth c H locs cells slots MC MS la F h L hc hs
  have q := kk p e s m args below meth c H locs cells slots MC MS la F h L hc hs
  have hX := (F.2.2.2.2.2.2.2.2.1.1 i _ hi).1
  have hN := va_Nw.use (A := args) rfl (F.2.2.2.2.2.2.2.1.2 _ hl)
  rw [vA, kAd_neg (by omega)] at q
  exact va_getsN (C := "KiteLand") F.1 F.2.1 hX h.2.2.2 F.2.2.2.2.2.1 hN (fun x hx => hx) hd q
theorem R_ialdS {i : Nat} {nm : String} {vs : List Int32} {j : Int} (f v : Int) (hd : decode M.2.1 pc = .ok (.iaload, 1)) (hi : kStA[i]? = some (nm, vs)) (hf : f = -((1 + i : Nat) : Int)) (hj : 0 ≤ j ∧ j < vs.length) (hlen : vs.length < 2147483648) (hv : vs.getD j.toNat 0 = Int32.ofInt v) (kk : Ex G w M d mc ms (pc + 1) ls (vI v :: st) σ Q) : Ex G w M d mc ms pc ls (vI j :: vA G f :: st) σ Q := by
  subst hf
  intro p e s m args below meth c H locs cells slots MC MS la F h L hc hs
  have q := kk p e s m args below meth c H locs cells slots MC MS la F h L hc hs
  have hX := (F.2.2.2.2.2.2.2.2.1.1 i _ hi).2
  rw [vA, kAd_neg (by omega)]
  exact va_ti F.1 F.2.1 hX h.2.2.2 (kin hj hlen) (by rw [knat hj hlen]; show Value.int _ = _; rw [hv]) hd q
theorem R_ldcS {idx i : Nat} {tx : String} {bs : List Int32} (f : Int) (hd : decode M.2.1 pc = .ok (.ldc idx, 2)) (hi : kStrs[i]? = some (M.1.cls, idx, tx, bs)) (hf : f = -((10 + i : Nat) : Int)) (kk : Ex G w M d mc ms (pc + 2) ls (vA G f :: st) σ Q) : Ex G w M d mc ms pc ls st σ Q := by
  subst hf
  intro p e s m args below meth c H locs cells slots MC MS la F h L hc hs
  have q := kk p e s m args below meth c H locs cells slots MC MS la F h L hc hs
  have hX := (F.2.2.2.2.2.2.2.2.1.2.1 i _ hi).1
  rw [vA, kAd_neg (by omega)] at q
  exact va_ldcS F.1 F.2.1 F.2.2.2.2.2.1 hX hd q
end
