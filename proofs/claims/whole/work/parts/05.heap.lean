variable {G : Kg} {w : Kw} {M : Km} {d mc ms pc : Nat} {ls : List (Nat × Value)} {st : List Value} {σ : Kmem} {Q : Int → Kmem → Prop}
/-- entry -/
theorem Run.of {as : List Value} (hy : plainFor M.1 = true) (hn : (lg_sl as).length ≤ M.2.2.1) (h : Ex G w M d mc ms 0 (lv_args 0 as) [] σ Q) : Run G w M d mc ms as σ Q := by
  refine va_MetF (cc := M.2.1) (maxL := M.2.2.1) (ret := M.2.2.2) hy rfl ?_
  intro p e s m args below meth c s₁ B hml hv
  obtain ⟨rfl, hP, hcap, hgr, hTb, hX⟩ := hv
  have hts := atoms_spec (ws := Cond.code M.1 M.2.1 M.2.2.1 M.2.2.2 :: kTbl) B.pre
  have hown : s.vm.findClass M.1.cls = some m.cls := findClass_of_methodNamed B.named
  rw [lg_entry_eq]
  have hl := lv_entry as (n := M.2.2.1) hn
  exact h p e s m _ below meth c s.heap [] 0 0 mc ms _ ⟨B.exec, B.bytes, hml, B.returns, B.notSynchronized, hown, fun w hw => hts w (List.mem_cons_of_mem _ hw), hTb, hX, (name_of_methodNamed B.named B.method).1⟩ ⟨hP, hcap, hgr, va_S.rf⟩ hl (by omega) (by omega)
theorem R_ireturn {a : Int} (hd : decode M.2.1 pc = .ok (.ireturn, 1)) (hr : M.2.2.2 = some .int) (hq : Q a σ) : Ex G w M d mc ms pc ls [vI a] σ Q := by
  intro p e s m args below meth c H locs cells slots MC MS la F h L hc hs
  refine W.widen (k := MC) (n := MS) (by omega) (by omega) ?_
  exact W.iret F.1 F.2.1 (F.2.2.2.1.trans hr) (fun t ht hW => ⟨⟨a, σ, by rw [hr]; rfl, hq, by rw [ht]; exact h.1, h.2.1, by rw [ht]; exact h.2.2.1⟩, h.2.2.2.F ht⟩) h.2.2.2.2.2 hd F.2.2.2.2.1
theorem R_zreturn {a : Int} (hd : decode M.2.1 pc = .ok (.ireturn, 1)) (hr : M.2.2.2 = some .boolean) (ha : a = 0 ∨ a = 1) (hq : Q a σ) : Ex G w M d mc ms pc ls [vI a] σ Q := by
  intro p e s m args below meth c H locs cells slots MC MS la F h L hc hs
  refine W.widen (k := MC) (n := MS) (by omega) (by omega) ?_
  exact W.zret F.1 F.2.1 (F.2.2.2.1.trans hr) (by rcases ha with rfl | rfl <;> rfl) (fun t ht hW => ⟨⟨a, σ, by rw [hr]; rfl, hq, by rw [ht]; exact h.1, h.2.1, by rw [ht]; exact h.2.2.1⟩, h.2.2.2.F ht⟩) h.2.2.2.2.2 hd F.2.2.2.2.1
theorem R_lreturn {a : Int} (hd : decode M.2.1 pc = .ok (.lreturn, 1)) (hr : M.2.2.2 = some .long) (hq : Q a σ) : Ex G w M d mc ms pc ls [vL a] σ Q := by
  intro p e s m args below meth c H locs cells slots MC MS la F h L hc hs
  refine W.widen (k := MC) (n := MS) (by omega) (by omega) ?_
  exact W.lret F.1 F.2.1 (F.2.2.2.1.trans hr) (fun t ht hW => ⟨⟨a, σ, by rw [hr]; rfl, hq, by rw [ht]; exact h.1, h.2.1, by rw [ht]; exact h.2.2.1⟩, h.2.2.2.F ht⟩) h.2.2.2.2.2 hd F.2.2.2.2.1
theorem R_return (hd : decode M.2.1 pc = .ok (.return_, 1)) (hr : M.2.2.2 = none) (hq : Q 0 σ) : Ex G w M d mc ms pc ls [] σ Q := by
  intro p e s m args below meth c H locs cells slots MC MS la F h L hc hs
  refine W.widen (k := MC) (n := MS) (by omega) (by omega) ?_
  exact W.vret F.1 F.2.1 (F.2.2.2.1.trans hr) (fun t ht hW => ⟨⟨0, σ, by rw [hr]; rfl, hq, by rw [ht]; exact h.1, h.2.1, by rw [ht]; exact h.2.2.1⟩, h.2.2.2.F ht⟩) h.2.2.2.2.2 hd F.2.2.2.2.1
/-! classes -/
theorem kTbl_cls {ci : Nat} (h : ci < 13) : ∀ w ∈ u_ws (kCn ci) (kCT ci) (knf ci), w ∈ kTbl := fun w hw => kTbl_in (kTbl_cls0 ci h w hw).1 (kTbl_cls0 ci h w hw).2
/-- the field entry idx of class own names field j of class ci -/
def kFld (own : String) (idx ci j : Nat) : Prop := ci < 13 ∧ j < knf ci ∧ Cond.fieldLink own idx (kCT ci j).1 (kCT ci j).2.1 (kCT ci j).2.2.1 ∈ kTbl
/-- the cell a is there and of that code -/
def kIs (w : Kw) (σ : Kmem) (a : Int) (code : Nat) : Prop := 0 ≤ a ∧ a.toNat < kN w σ ∧ (w.1 a.toNat).1 = code
def kAr (w : Kw) (σ : Kmem) (a : Int) (code len : Nat) : Prop := kIs w σ a code ∧ (w.1 a.toNat).2 = len ∧ len < 2147483648
theorem kAd_pos {a : Int} (h : 0 ≤ a) : kAd G a = G.2.1 + a.toNat := if_pos h
theorem kWL_obj {n : Nat} {a : Int} {ci : Nat} (h : kIs w σ a ci) (hn : n = kN w σ) (hc : ci < 20) : (kWL G w σ n)[a.toNat]? = some (kAd G a, .inr (ci, kObj G w σ a.toNat ci)) := by
  subst hn
  rw [kWL_at h.2.1, kAd_pos h.1]
  unfold kCell
  rw [if_pos (by rw [h.2.2]; exact hc), h.2.2]
theorem kWL_arr {n : Nat} {a : Int} {code len : Nat} (h : kAr w σ a code len) (hn : n = kN w σ) (hc : 20 ≤ code) : (kWL G w σ n)[a.toNat]? = some (kAd G a, .inl (G.2.2.2.1 code, (len, kArC G w σ a.toNat code))) := by
  subst hn
  rw [kWL_at h.1.2.1, kAd_pos h.1.1]
  unfold kCell
  rw [if_neg (by rw [h.1.2.2]; omega), h.1.2.2, h.2.1]
theorem kObj_at {a ci j : Nat} (h : j < knf ci) : (kObj G w σ a ci)[j]? = some (kEnc G (kfty ci j) (w.2.1 σ a j) (σ a j)) := by
  simp [kObj, List.getElem?_map, List.getElem?_range h]
theorem kTys_at {i : Nat} (h : i < 11) : (kTys G)[i]? = some (G.2.2.2.1 (20 + i), kaTy i) := by
  simp [kTys, List.getElem?_map, List.getElem?_range h]
theorem kto {a : Int} (h : 0 ≤ a) : ((a.toNat : Nat) : Int) = a := Int.toNat_of_nonneg h
theorem R_getf {a : Int} (ci j : Nat) {idx : Nat} (v : Value) (hd : decode M.2.1 pc = .ok (.getfield idx, 3)) (hF : kFld M.1.cls idx ci j) (ha : kIs w σ a ci) (hv : kEnc G (kfty ci j) (w.2.1 σ a j) (σ a j) = v) (kk : Ex G w M d mc ms (pc + 3) ls (v :: st) σ Q) : Ex G w M d mc ms pc ls (vA G a :: st) σ Q := by
  intro p e s m args below meth c H locs cells slots MC MS la F h L hc hs
  refine va_get (D := G.2.2.1) (ci := ci) F.1 F.2.1 F.2.2.2.2.2.2.1 (kTbl_cls hF.1) F.2.2.2.2.2.1 F.2.2.2.2.2.2.2.1.1 h.1 a.toNat (kWL_obj ha rfl (by have := hF.1; omega)) (kCl_at hF.1) j hF.2.1 (F.2.2.2.2.2.2.1 _ hF.2.2) (fun x hx => hx) (v := v) ?_ hd (kk p e s m args below meth c H locs cells slots MC MS la F h L hc hs)
  rw [kObj_at hF.2.1, kto ha.1, hv]
theorem R_getI {a : Int} (ci j : Nat) {idx : Nat} (jj : Int) (hd : decode M.2.1 pc = .ok (.getfield idx, 3)) (hF : kFld M.1.cls idx ci j) (ha : kIs w σ a ci) (hv : ∀ f x : Int, kEnc G (kfty ci j) f x = vI x) (hj : (j : Int) = jj) (kk : Ex G w M d mc ms (pc + 3) ls (vI (σ a jj) :: st) σ Q) : Ex G w M d mc ms pc ls (vA G a :: st) σ Q := by
  subst hj
  exact R_getf ci j _ hd hF ha (hv _ _) kk
theorem R_getL {a : Int} (ci j : Nat) {idx : Nat} (jj : Int) (hd : decode M.2.1 pc = .ok (.getfield idx, 3)) (hF : kFld M.1.cls idx ci j) (ha : kIs w σ a ci) (hv : ∀ f x : Int, kEnc G (kfty ci j) f x = vL x) (hj : (j : Int) = jj) (kk : Ex G w M d mc ms (pc + 3) ls (vL (σ a jj) :: st) σ Q) : Ex G w M d mc ms pc ls (vA G a :: st) σ Q := by
  subst hj
  exact R_getf ci j _ hd hF ha (hv _ _) kk
theorem R_getA {a : Int} (ci j : Nat) {idx : Nat} (f : Int) (hd : decode M.2.1 pc = .ok (.getfield idx, 3)) (hF : kFld M.1.cls idx ci j) (ha : kIs w σ a ci) (hv : ∀ g x : Int, kEnc G (kfty ci j) g x = kRf G g) (hf : w.2.1 σ a j = f) (hf0 : f ≠ 0) (kk : Ex G w M d mc ms (pc + 3) ls (vA G f :: st) σ Q) : Ex G w M d mc ms pc ls (vA G a :: st) σ Q := by
  refine R_getf ci j _ hd hF ha (hv _ _) ?_
  rw [hf]
  unfold kRf kRo
  rw [if_neg hf0]
  exact kk
/-! stores: which slots hold references -/
def kIsR (ty : FieldType) : Bool := match ty with | .object _ => true | .array _ => true | _ => false
def kRef (w : Kw) (b k : Nat) : Prop := ((w.1 b).1 < 20 ∧ kIsR (kfty (w.1 b).1 k) = true) ∨ 24 ≤ (w.1 b).1
/-- a store elsewhere moves no reference -/
def kOK (w : Kw) : Prop := ∀ (σ : Kmem) (a j : Nat) (v : Int), ¬ kRef w a j → ∀ b k : Nat, kRef w b k → w.2.1 (kup σ a j v) b k = w.2.1 σ b k
theorem kup_ne {a j v b k : Int} (h : ¬ (b = a ∧ k = j)) : kup σ a j v b k = σ b k := if_neg h
theorem kup_eq {a j v : Int} : kup σ a j v a j = v := if_pos ⟨rfl, rfl⟩
theorem kN_up {a j v : Int} (h : 0 ≤ a) : kN w (kup σ a j v) = kN w σ := by
  unfold kN
  rw [kup_ne (by omega)]
theorem kEnc_nr {ty : FieldType} {f g v : Int} (h : kIsR ty = false) : kEnc G ty f v = kEnc G ty g v := by cases ty <;> first | rfl | cases h
/-- the cells behind a store (any memory that differs in one slot) -/
theorem kCell_ne {σ' : Kmem} {b : Nat} (h1 : ∀ k : Nat, σ' b k = σ b k) (h2 : ∀ k : Nat, kRef w b k → w.2.1 σ' b k = w.2.1 σ b k) : kCell G w σ' b = kCell G w σ b := by
  unfold kCell
  by_cases hb : (w.1 b).1 < 20
  · rw [if_pos hb, if_pos hb]
    congr 2
    unfold kObj
    refine List.map_congr_left fun k _ => ?_
    rw [h1 k]
    cases hr : kIsR (kfty (w.1 b).1 k)
    · exact kEnc_nr hr
    · rw [h2 k (Or.inl ⟨hb, hr⟩)]
  · rw [if_neg hb, if_neg hb]
    congr 3
    unfold kArC
    split
    · simp only [h1]
    · split
      · rename_i h24
        congr 4
        funext k
        rw [h2 k (Or.inr h24)]
      · simp only [h1]
theorem kWL_set {σ' : Kmem} {n : Nat} {a : Nat} {e : va_E} (hn : a < n) (h1 : ∀ b k : Nat, b ≠ a → σ' b k = σ b k) (h2 : ∀ b k : Nat, b ≠ a → kRef w b k → w.2.1 σ' b k = w.2.1 σ b k) (he : kCell G w σ' a = e) : (kWL G w σ n).set a (G.2.1 + a, e) = kWL G w σ' n := by
  apply List.ext_getElem?
  intro b
  by_cases hb : b = a
  · subst hb
    rw [List.getElem?_set_self (by rw [kWL_len]; exact hn), kWL_at hn, he]
  · rw [List.getElem?_set_ne (Ne.symm hb)]
    by_cases hl : b < n
    · rw [kWL_at hl, kWL_at hl, kCell_ne (fun k => h1 b k hb) (fun k => h2 b k hb)]
    · rw [List.getElem?_eq_none (by rw [kWL_len]; omega), List.getElem?_eq_none (by rw [kWL_len]; omega)]
theorem kHp_st {σ' : Kmem} {s : State} {H H1 : Heap} {locs locs1 : List Loc} (h : kHp G w σ s H locs) (hN : kN w σ' = kN w σ) (hz : H1.size = H.size) (hP : va_P G.2.2.1 vwCl (kWL G w σ' (kN w σ)) H1) (hS : va_S (kA G w) s.heap H1 locs1) : kHp G w σ' s H1 locs1 :=
  ⟨by rw [hN]; exact hP, by rw [hN]; exact h.2.1, by rw [hN, hz]; exact h.2.2.1, hS⟩
