/-! MAKING: rules of worlds that grow -/
def kG0 (w : Kw) : Prop := w.2.2.1 = true ∧ w.2.1 = fun σ a j => σ a j
theorem WX0_g : kG0 WX0 := ⟨rfl, rfl⟩
theorem WM0_g : kG0 WM0 := ⟨rfl, rfl⟩
/-- a cell more -/
def kmk (σ : Kmem) (n : Int) : Kmem := fun b k => if b = n then 0 else if b = -7 ∧ k = 0 then n + 1 else σ b k
theorem arrV_congr {cA : ClassId} {n : Nat} {f g : Nat → Value} (h : ∀ j, j < n → f j = g j) : arrV cA n f = arrV cA n g := by
  unfold arrV
  congr 2
  funext j
  exact h j.val j.isLt
/-- the rows' row, by how many are laid -/
theorem vr_outer0 (c : ClassId) (N h0 : Nat) : ∀ i : Nat, Jvm.Free.Multi.outerC c N h0 i = arrV c N (fun j => va_rf (if j < i then some (h0 + 1 + j) else none))
  | 0 => by
    show ({ cls := c, slots := Array.replicate N .null, vm := .none } : Cell) = _
    rw [arrV_new]
    exact arrV_congr (fun j _ => by rw [if_neg (by omega)]; rfl)
  | i + 1 => by
    show (Jvm.Free.Multi.outerC c N h0 i).setSlot i (.ref (h0 + 1 + i)) = _
    rw [vr_outer0 c N h0 i, arrV_store]
    refine arrV_congr (fun j _ => ?_)
    show updV (fun j => va_rf (if j < i then some (h0 + 1 + j) else none)) i (.ref (h0 + 1 + i)) j = _
    unfold updV
    by_cases e : j = i
    · subst e
      rw [if_pos rfl, if_pos (by omega)]
      rfl
    · rw [if_neg e]
      by_cases h : j < i
      · dsimp only; rw [if_pos h, if_pos (by omega)]
      · dsimp only; rw [if_neg h, if_neg (by omega)]
section
variable {G : Kg} {w : Kw} {M : Km} {d mc ms pc : Nat} {ls : List (Nat × Value)} {st : List Value} {σ : Kmem} {Q : Int → Kmem → Prop}
theorem Ex.le {mc1 ms1 : Nat} (h1 : mc1 ≤ mc) (h2 : ms1 ≤ ms) (h : Ex G w M d mc1 ms1 pc ls st σ Q) : Ex G w M d mc ms pc ls st σ Q := by
  intro p e s m args below meth c H locs cells slots MC MS la F hh L hc hs
  exact h p e s m args below meth c H locs cells slots MC MS la F hh L (by omega) (by omega)
theorem kG_N (hw : kG0 w) {n : Nat} (hn : σ (-7) 0 = (n : Int)) : kN w σ = n := by
  unfold kN
  rw [if_pos hw.1, hn]
  rfl
theorem kmk_o {n b k : Int} (h : b ≠ n) (h2 : b ≠ -7) : kmk σ n b k = σ b k := by
  unfold kmk
  rw [if_neg h, if_neg (fun q => h2 q.1)]
theorem kmk_n {n k : Int} : kmk σ n n k = 0 := by
  unfold kmk
  rw [if_pos rfl]
theorem kmk_c {n : Int} (h : 0 ≤ n) : kmk σ n (-7) 0 = n + 1 := by
  unfold kmk
  rw [if_neg (by omega), if_pos ⟨rfl, rfl⟩]
theorem kHp_push {s : State} {H H1 : Heap} {locs : List Loc} {n : Nat} (hw : kG0 w) (h : kHp G w σ s H locs) (hn : σ (-7) 0 = (n : Int)) (hcap : n < w.2.2.2) (z1 : H1.size = H.size + 1) (o1 : ∀ q : Nat, q < H.size → H1[q]? = H[q]?)
    (hat : va_at G.2.2.1 vwCl (H.size, kCell G w (kmk σ n) n) H1) : kHp G w (kmk σ n) s H1 locs := by
  have hN := kG_N hw hn
  have hN1 : kN w (kmk σ n) = n + 1 := kG_N hw (by rw [kmk_c (by omega)]; rfl)
  have hz := h.2.2.1 hw.1
  rw [hN] at hz
  have hP := h.1
  rw [hN] at hP
  refine ⟨?_, by rw [hN1]; omega, fun _ => by rw [hN1, z1, hz]; omega, ⟨Nat.le_trans h.2.2.2.1 (by omega), fun q h1 h2 => ?_, h.2.2.2.2.2⟩⟩
  · rw [hN1]
    intro k q hq
    obtain ⟨hk, rfl⟩ := kWL_of hq
    by_cases hl : k < n
    · have e : kCell G w (kmk σ n) k = kCell G w σ k := kCell_ne (fun j => kmk_o (by omega) (by omega)) (fun j _ => by rw [hw.2]; exact kmk_o (by omega) (by omega))
      rw [e]
      have h0 := hP k _ (kWL_at hl)
      exact h0.kept (o1 _ h0.lt)
    · have : k = n := by omega
      subst this
      rw [← hz]; exact hat
  · rw [o1 q (Nat.lt_of_lt_of_le h1 h.2.2.2.1)]
    exact h.2.2.2.2.1 q h1 h2
theorem kfty_ok : ∀ ci, ci < 13 → ∀ j, j < knf ci → (kfty ci j = .int ∨ kfty ci j = .long ∨ kfty ci j = .boolean ∨ kIsR (kfty ci j) = true) := by decide +kernel
theorem kEnc_0 {ty : FieldType} (h : ty = .int ∨ ty = .long ∨ ty = .boolean ∨ kIsR ty = true) : defaultValue ty = kEnc G ty 0 0 := by
  rcases h with rfl | rfl | rfl | h
  · rfl
  · rfl
  · rfl
  · cases ty <;> first | rfl | (cases h; done)
theorem kObj_0 {n ci : Nat} (hw : kG0 w) (hci : ci < 13) : ∀ j, j < knf ci → defaultValue (kfty ci j) = vp_V (kObj G w (kmk σ n) n ci) j := by
  intro j hj
  unfold vp_V
  rw [List.getD_eq_getElem?_getD, kObj_at hj, hw.2]
  show defaultValue (kfty ci j) = kEnc G (kfty ci j) (kmk σ n n j) (kmk σ n n j)
  rw [kmk_n]
  exact kEnc_0 (kfty_ok ci hci j hj)
/-- new, for whatever end -/
theorem kNewW {p : Program} {e : Env} {s : State} {m : MethodId} {args : Array Value} {below : List Frame} {meth : Method} {c : Code} {H : Heap} {locs : List Loc} {cells slots : Nat} {la : Array Slot} {RR : Room} {QQ : State → Prop} {own : String} {cc : ByteArray} {idx : Nat} (n ci : Nat) (hw : kG0 w)
    (hx : p.tables.exec = Jvm.exec) (hb : c.code = cc) (hown : s.vm.findClass own = some m.cls) (hts : ∀ w ∈ kTbl, w.before args s = true) (hK : va_K G.2.2.1 vwCl (kTys G) s) (h : kHp G w σ s H locs)
    (hd : decode cc pc = .ok (.new idx, 3)) (hci : ci < 13) (hl : Cond.classLink own idx (kCn ci) ∈ kTbl) (hi : Cond.instantiable (kCn ci) (knf ci) ∈ kTbl) (hini : Cond.initialized (kCn ci) ∈ kTbl) (hn : σ (-7) 0 = (n : Int)) (hcap : n < w.2.2.2) (hs : (w.1 n).1 = ci) (hc1 : cells + 1 ≤ RR.cells) (hc2 : slots + knf ci ≤ RR.slots)
    (kk : ∀ H1 : Heap, H1.size = H.size + 1 → (∀ q : Nat, q < H.size → H1[q]? = H[q]?) → kHp G w (kmk σ n) s H1 locs → W p G.1 e RR s m args below meth c H1 locs (cells + 1) (slots + knf ci) QQ (F0 m (pc + 3) la (vA G n :: st))) : W p G.1 e RR s m args below meth c H locs cells slots QQ (F0 m pc la st) := by
  have hKn := hK.1 ci _ (kCl_at hci)
  refine W.newcK hx hb hown (hts _ hl) (hts _ hi) (hts _ hini) rfl hd hc1 hc2 hKn.2.1 rfl fun H1 kC hkC e1 z1 o1 => ?_
  have hz := h.2.2.1 hw.1
  rw [kG_N hw hn] at hz
  have q := kk H1 z1 o1 (kHp_push hw h hn hcap z1 o1 (by
    have ec : kCell G w (kmk σ n) n = .inr (ci, kObj G w (kmk σ n) n ci) := by
      unfold kCell
      rw [if_pos (by rw [hs]; omega), hs]
    rw [ec]
    exact ⟨_, kCl_at hci, (u_born (kfty ci) hts (kTbl_cls hci) hKn hkC e1 (kCT_ok ci hci)).to (kObj_0 hw hci)⟩))
  have ea : vA G (n : Int) = .ref H.size := by
    show Value.ref (kAd G (n : Int)) = _
    rw [kAd_pos (by omega), hz]; rfl
  rw [ea] at q
  exact q
theorem R_new {idx : Nat} (n : Int) (ci mc1 ms1 : Nat) (hw : kG0 w) (hd : decode M.2.1 pc = .ok (.new idx, 3)) (hl : ci < 13 ∧ Cond.classLink M.1.cls idx (kCn ci) ∈ kTbl) (hi : Cond.instantiable (kCn ci) (knf ci) ∈ kTbl) (hini : Cond.initialized (kCn ci) ∈ kTbl) (hn : σ (-7) 0 = n) (h0 : 0 ≤ n ∧ n.toNat < w.2.2.2 ∧ (w.1 n.toNat).1 = ci) (hm : mc1 + 1 ≤ mc ∧ ms1 + knf ci ≤ ms)
    (kk : Ex G w M d mc1 ms1 (pc + 3) ls (vA G n :: st) (kmk σ n) Q) : Ex G w M d mc ms pc ls st σ Q := by
  intro p e s m args below meth c H locs cells slots MC MS la F h L hc hs
  obtain ⟨k, rfl⟩ := Int.eq_ofNat_of_zero_le h0.1
  refine kNewW k ci hw F.1 F.2.1 F.2.2.2.2.2.1 F.2.2.2.2.2.2.1 F.2.2.2.2.2.2.2.1.1 h hd hl.1 hl.2 hi hini hn h0.2.1 h0.2.2 (by show cells + 1 ≤ MC; omega) (by show slots + knf ci ≤ MS; omega) (fun H1 _ _ h1 => ?_)
  exact kk p e s m args below meth c H1 locs (cells + 1) (slots + knf ci) MC MS la F h1 L (by omega) (by omega)
/-- a row of numbers -/
theorem R_newarr {atype : ArrayType} (n : Int) (code len mc1 ms1 : Nat) (hw : kG0 w) (hd : decode M.2.1 pc = .ok (.newarray atype, 2)) (hty : newarray.typeOf atype = kaTy (code - 20)) (hcode : code = 20 ∨ code = 21 ∨ code = 22 ∨ code = 23) (hl : Cond.arrayClass (newarray.typeOf atype) ∈ kTbl) (hn : σ (-7) 0 = n) (h0 : 0 ≤ n ∧ n.toNat < w.2.2.2 ∧ w.1 n.toNat = (code, len)) (hlen : len ≤ 10000) (hm : mc1 + 1 ≤ mc ∧ ms1 + len ≤ ms)
    (kk : Ex G w M d mc1 ms1 (pc + 2) ls (vA G n :: st) (kmk σ n) Q) : Ex G w M d mc ms pc ls (vI (len : Int) :: st) σ Q := by
  intro p e s m args below meth c H locs cells slots MC MS la F h L hc hs
  obtain ⟨k, rfl⟩ := Int.eq_ofNat_of_zero_le h0.1
  have hK := F.2.2.2.2.2.2.2.1.1
  have ht := kTys_at (G := G) (i := code - 20) (by omega)
  rw [show 20 + (code - 20) = code by omega] at ht
  have hz := h.2.2.1 hw.1
  rw [kG_N hw hn] at hz
  have hnn : (Int32.ofInt (len : Int)).toNatClampNeg = len := by
    show (Int32.ofInt (len : Int)).toInt.toNat = len
    rw [i32_to (by omega) (by omega)]; rfl
  have hneg : ¬ Int32.ofInt (len : Int) < 0 := by
    rw [i32_0, i32_lt ⟨by omega, by omega⟩ (by decide)]; omega
  have hcb : componentBytes (newarray.typeOf atype) ≤ 8 := by cases atype <;> decide
  refine va_newaK F.1 F.2.1 (F.2.2.2.2.2.2.1 _ hl) rfl hd rfl hneg hnn (Nat.le_trans (Nat.mul_le_mul hlen hcb) (by decide)) (by show cells + 1 ≤ MC; omega) (by show slots + len ≤ MS; omega) rfl fun H1 cA e1 z1 o1 hAr hNm => ?_
  have hcA : cA = G.2.2.2.1 code := by
    have h2 := (hK.2 _ _ ht).2
    rw [hty] at hNm
    rcases hcode with rfl | rfl | rfl | rfl <;> exact Option.some.inj (hNm.symm.trans h2)
  subst hcA
  have q := kk p e s m args below meth c H1 locs (cells + 1) (slots + len) MC MS la F (kHp_push hw h hn h0.2.1 z1 o1 (by
    have ec : kCell G w (kmk σ k) k = .inl (G.2.2.2.1 code, (len, kArC G w (kmk σ k) k code)) := by
      unfold kCell
      have e2 : w.1 k = (code, len) := h0.2.2
      rw [e2]
      rw [if_neg (by show ¬ code < 20; omega)]
    rw [ec]
    show H1[H.size]? = some (vp_cell _ _)
    rw [e1, hty]
    congr 1
    rcases hcode with rfl | rfl | rfl | rfl
    · rw [kArC_i (by omega), vp_cell_i]; congr 1; funext j; show Value.int 0 = .int (Int32.ofInt (kmk σ k k j)); rw [kmk_n]; rfl
    · rw [kArC_l, vp_cell_l]; congr 1; funext j; show Value.long 0 = .long (Int64.ofInt (kmk σ k k j)); rw [kmk_n]; rfl
    · rw [kArC_i (by omega), vp_cell_i]; congr 1; funext j; show Value.int 0 = .int (Int32.ofInt (kmk σ k k j)); rw [kmk_n]; rfl
    · rw [kArC_i (by omega), vp_cell_i]; congr 1; funext j; show Value.int 0 = .int (Int32.ofInt (kmk σ k k j)); rw [kmk_n]; rfl)) L (by omega) (by omega)
  have ea : vA G ((k : Nat) : Int) = .ref H.size := by
    show Value.ref (kAd G (k : Int)) = _
    rw [kAd_pos (by omega), hz]; rfl
  rw [ea] at q
  exact q
/-- a row of references -/
theorem R_newq {idx : Nat} {C : String} (n : Int) (code len mc1 ms1 : Nat) (hw : kG0 w) (hd : decode M.2.1 pc = .ok (.anewarray idx, 3)) (hcode : 24 ≤ code ∧ code < 30) (hty : kaTy (code - 20) = .object C) (hl : Cond.classLink M.1.cls idx C ∈ kTbl) (ho : Cond.arrayOver (.object C) ∈ kNest) (hn : σ (-7) 0 = n) (h0 : 0 ≤ n ∧ n.toNat < w.2.2.2 ∧ w.1 n.toNat = (code, len)) (hlen : len ≤ 10000) (hm : mc1 + 1 ≤ mc ∧ ms1 + len ≤ ms)
    (kk : Ex G w M d mc1 ms1 (pc + 3) ls (vA G n :: st) (kmk σ n) Q) : Ex G w M d mc ms pc ls (vI (len : Int) :: st) σ Q := by
  intro p e s m args below meth c H locs cells slots MC MS la F h L hc hs
  obtain ⟨k, rfl⟩ := Int.eq_ofNat_of_zero_le h0.1
  have hK := F.2.2.2.2.2.2.2.1.1
  have ht := kTys_at (G := G) (i := code - 20) (by omega)
  rw [show 20 + (code - 20) = code by omega, hty] at ht
  have hz := h.2.2.1 hw.1
  rw [kG_N hw hn] at hz
  have hnn : (Int32.ofInt (len : Int)).toNatClampNeg = len := by
    show (Int32.ofInt (len : Int)).toInt.toNat = len
    rw [i32_to (by omega) (by omega)]; rfl
  have hneg : ¬ Int32.ofInt (len : Int) < 0 := by
    rw [i32_0, i32_lt ⟨by omega, by omega⟩ (by decide)]; omega
  refine W.anew F.1 F.2.1 F.2.2.2.2.2.1 (F.2.2.2.2.2.2.1 _ hl) (va_AO.use (F.2.2.2.2.2.2.2.1.2 _ ho)) rfl hd rfl hneg (by rw [hnn]; omega) (by show cells + 1 ≤ MC; omega) (by rw [hnn]; show slots + len ≤ MS; omega) fun cA kA comp f1 f2 f3 f4 => ?_
  rw [hnn]
  generalize hH1 : H.push ({ cls := cA, slots := Array.replicate len .null, vm := .none } : Cell) = H1
  have z1 : H1.size = H.size + 1 := by rw [← hH1, Array.size_push]
  have e1 : H1[H.size]? = some (arrV cA len (fun _ => .null)) := by rw [← hH1, Array.getElem?_push_size, ← arrV_new]
  have o1 : ∀ q : Nat, q < H.size → H1[q]? = H[q]? := fun q hq => by rw [← hH1, Array.getElem?_push, if_neg (Nat.ne_of_lt hq)]
  have hcA : cA = G.2.2.2.1 code := by
    obtain ⟨kA', comp', g1, g2, g3, g4⟩ := (hK.2 _ _ ht).2
    exact Option.some.inj (f1.symm.trans g4)
  subst hcA
  have q := kk p e s m args below meth c H1 locs (cells + 1) (slots + len) MC MS la F (kHp_push hw h hn h0.2.1 z1 o1 (by
    have ec : kCell G w (kmk σ k) k = .inl (G.2.2.2.1 code, (len, kArC G w (kmk σ k) k code)) := by
      unfold kCell
      have e2 : w.1 k = (code, len) := h0.2.2
      rw [e2]
      rw [if_neg (by show ¬ code < 20; omega)]
    rw [ec]
    show H1[H.size]? = some (vp_cell _ _)
    rw [e1, kArC_q (by omega), vp_cell_q]
    congr 2
    funext j
    rw [hw.2]
    show Value.null = va_rf (kRo G (kmk σ k k j))
    rw [kmk_n]; rfl)) L (by omega) (by omega)
  have ea : vA G ((k : Nat) : Int) = .ref H.size := by
    show Value.ref (kAd G (k : Int)) = _
    rw [kAd_pos (by omega), hz]; rfl
  rw [ea] at q
  exact q
/-- into a row of references -/
theorem R_astq {a i f : Int} (code ci len : Nat) (hw : kG0 w) (hd : decode M.2.1 pc = .ok (.aastore, 1)) (hcode : 24 ≤ code ∧ code < 30) (hty : kaTy (code - 20) = .object (kCn ci)) (hci : ci < 13) (ha : kAr w σ a code len) (hv : kIs w σ f ci) (hf : f ≠ 0) (hi : 0 ≤ i ∧ i < len)
    (kk : Ex G w M d mc ms (pc + 1) ls st (kup σ a i f) Q) : Ex G w M d mc ms pc ls (vA G f :: vI i :: vA G a :: st) σ Q := by
  intro p e s m args below meth c H locs cells slots MC MS la F h L hc hs
  have he := kWL_arr (G := G) ha rfl (by omega)
  rw [kArC_q (by omega)] at he
  have ht := kTys_at (G := G) (i := code - 20) (by omega)
  rw [show 20 + (code - 20) = code by omega, hty] at ht
  have hD : va_D (kA G w) (kWL G w σ (kN w σ)) := kWL_D h.2.1
  have hv2 := kWL_obj (G := G) hv rfl (by omega)
  have hK := F.2.2.2.2.2.2.2.1.1
  have hin := kin hi ha.2.2
  have hlt : (Int32.ofInt i).toNatClampNeg < len := Nat.not_le.mp fun q => hin (Or.inr q)
  have hi0 : ¬ Int32.ofInt i < 0 := fun q => hin (Or.inl q)
  obtain ⟨r', hr', cellV, g1, g2, g3, -⟩ := h.1 f.toNat _ hv2
  have hcls := (hK.1 ci _ (kCl_at hci)).2
  obtain ⟨kA', comp, k1, k2, k3, -⟩ := (hK.2 _ _ ht).2
  have hcomp : comp = G.2.2.1.1 ci := Option.some.inj (k3.symm.trans hcls.1)
  subst hcomp
  obtain ⟨kC, hkC, -⟩ := hcls.2
  refine W.aast F.1 F.2.1 (h.1 a.toNat _ he) (fun q h => by cases h) (fun h => by cases h) k1 k2 rfl hkC ⟨hi0, by show _ < (arrV _ _ _).slots.size; rw [arrV_size]; exact hlt⟩ g1 (fun q h => by rw [g3] at h; cases h) (by rw [g2]; exact hkC) (by rw [g2]; exact va_assign hcls) rfl rfl hd fun H1 e1 z1 o1 => ?_
  have hup : ∀ b k : Nat, ¬ (b = a.toNat ∧ k = i.toNat) → kup σ a i f b k = σ b k := fun b k hb => kup_ne (fun q => hb ⟨by have := ha.1.1; omega, by omega⟩)
  have hP2 : va_P G.2.2.1 vwCl ((kWL G w σ (kN w σ)).set a.toNat (G.2.1 + a.toNat, kCell G w (kup σ a i f) a.toNat)) H1 := by
    rw [← kAd_pos ha.1.1]
    refine h.1.set hD he ?_ o1
    have ec : kCell G w (kup σ a i f) a.toNat = .inl (G.2.2.2.1 code, (len, kArC G w (kup σ a i f) a.toNat code)) := by
      unfold kCell
      rw [ha.1.2.2, if_neg (by omega), ha.2.1]
    rw [ec]
    show H1[kAd G a]? = some (vp_cell _ _)
    rw [e1, kArC_q (by omega), vp_cell_q, vp_cell_q, arrV_store, hw.2]
    congr 2
    funext q
    rw [knat hi ha.2.2]
    by_cases hq : q = i.toNat
    · subst hq
      have e2 : kup σ a i f ((a.toNat : Nat) : Int) ((i.toNat : Nat) : Int) = f := by rw [kto ha.1.1, kto hi.1, kup_eq]
      show updV _ _ _ _ = va_rf (kRo G (kup σ a i f ((a.toNat : Nat) : Int) ((i.toNat : Nat) : Int)))
      rw [e2]
      unfold updV
      rw [if_pos rfl]
      unfold kRo
      rw [if_neg hf]
      rfl
    · have e2 := hup a.toNat q (fun z => hq z.2)
      show updV _ _ _ _ = va_rf (kRo G (kup σ a i f ((a.toNat : Nat) : Int) (q : Int)))
      rw [e2]
      unfold updV
      rw [if_neg hq]
  rw [kWL_set (σ' := kup σ a i f) ha.1.2.1 (fun b k hb => hup b k (fun q => hb q.1)) (fun b k hb _ => by rw [hw.2]; exact hup b k (fun q => hb q.1)) rfl] at hP2
  exact kk p e s m args below meth c H1 _ cells slots MC MS la F (kHp_st h (kN_up ha.1.1) z1 hP2 (h.2.2.2.put z1 o1 (hD.2 a.toNat _ he))) L hc hs
theorem R_obj {idx : Nat} {a : Int} (hd : decode M.2.1 pc = .ok (.invokespecial idx, 3)) (h1 : Cond.methodLink M.1.cls idx Lib.objectInit ∈ kTbl) (h2 : Cond.instanceMethod Lib.objectInit ∈ kTbl) (h3 : Cond.code Lib.objectInit ⟨#[0xb1]⟩ 1 none ∈ kTbl) (hd1 : 1 ≤ d) (hW : (st.map fun v => v.category).sum ≤ 8) (kk : Ex G w M d mc ms (pc + 3) ls st σ Q) : Ex G w M d mc ms pc ls (vA G a :: st) σ Q := by
  intro p e s m args below meth c H locs cells slots MC MS la F h L hc hs
  have hts := F.2.2.2.2.2.2.1
  refine W.objInit F.1 F.2.1 F.2.2.2.2.2.1 (hts _ h1) (hts _ h2) (hts _ h3) rfl (by rw [F.2.2.1]; exact L.1) rfl hd (by show 1 ≤ d; exact hd1) ?_ (kk p e s m args below meth c H locs cells slots MC MS la F h L hc hs)
  show 2 * 0 + (st.map fun v => v.category).sum + 12 ≤ 64 * d
  omega
theorem puts0 {a f : Int} {j : Nat} (hw : kG0 w) (h : 0 ≤ a) (hf : f ≠ 0) : kPutsR w σ a j f := by
  refine ⟨?_, hf, fun b k hb _ => ?_⟩
  · rw [hw.2]
    show kup σ a j f ((a.toNat : Nat) : Int) j = f
    rw [kto h, kup_eq]
  · rw [hw.2]
    exact kup_ne (fun q => hb ⟨by omega, by omega⟩)
theorem kup_c {a j v : Int} (h : 0 ≤ a) : kup σ a j v (-7) 0 = σ (-7) 0 := kup_ne (fun q => by omega)
theorem kIs_0 {n a : Int} {c : Nat} (hw : kG0 w) (hn : σ (-7) 0 = n) (h : 0 ≤ a ∧ a < n ∧ (w.1 a.toNat).1 = c) : kIs w σ a c := by
  refine ⟨h.1, ?_, h.2.2⟩
  unfold kN
  rw [if_pos hw.1, hn]
  omega
theorem kAr_0 {n a : Int} {c l : Nat} (hw : kG0 w) (hn : σ (-7) 0 = n) (h : 0 ≤ a ∧ a < n ∧ w.1 a.toNat = (c, l)) (hl : l < 2147483648) : kAr w σ a c l :=
  ⟨kIs_0 hw hn ⟨h.1, h.2.1, by rw [h.2.2]⟩, by rw [h.2.2], hl⟩
/-- rows in a row -/
def kmr (σ : Kmem) (n : Int) : Kmem := fun b k => if n < b ∧ b ≤ n + 6 then 0 else if b = n then (if 0 ≤ k ∧ k < 6 then n + 1 + k else 0) else if b = -7 ∧ k = 0 then n + 7 else σ b k
theorem R_mna {idx : Nat} (n : Int) (mc1 ms1 : Nat) (hw : kG0 w) (hd : decode M.2.1 pc = .ok (.multianewarray idx 2, 4)) (hl : Cond.classLink M.1.cls idx ("[" ++ (FieldType.array .int).toString) ∈ kTbl) (ho : Cond.arrayOver (.array .int) ∈ kNest) (har : Cond.arrayClass .int ∈ kTbl) (hn : σ (-7) 0 = n) (h0 : 0 ≤ n ∧ n.toNat + 7 ≤ w.2.2.2 ∧ w.1 n.toNat = (30, 6) ∧ ∀ i, i < 6 → w.1 (n.toNat + 1 + i) = (20, 9)) (hm : mc1 + 7 ≤ mc ∧ ms1 + 60 ≤ ms)
    (kk : Ex G w M d mc1 ms1 (pc + 4) ls (vA G n :: st) (kmr σ n) Q) : Ex G w M d mc ms pc ls (vI 9 :: vI 6 :: st) σ Q := by
  intro p e s m args below meth c H locs cells slots MC MS la F h L hc hs
  obtain ⟨k, rfl⟩ := Int.eq_ofNat_of_zero_le h0.1
  have hK := F.2.2.2.2.2.2.2.1.1
  have hts := F.2.2.2.2.2.2.1
  have hN := kG_N hw hn
  have hz := h.2.2.1 hw.1
  rw [hN] at hz
  have hP := h.1
  rw [hN] at hP
  have ht30 := (hK.2 _ _ (kTys_at (G := G) (i := 10) (by omega))).2
  have ht20 := (hK.2 _ _ (kTys_at (G := G) (i := 0) (by omega))).2
  have n6 : (Int32.ofInt 6).toNatClampNeg = 6 := by decide
  have n9 : (Int32.ofInt 9).toNatClampNeg = 9 := by decide
  intro T hT X
  obtain ⟨vm₁, cA, comp, -, fA, fC, hO, -, X', step⟩ := X.multianewarray2F F.1 F.2.2.2.2.2.1 (hts _ hl) (F.2.2.2.2.2.2.2.1.2 _ ho) (hts _ har) (g := F0 m pc la (vI 9 :: vI 6 :: st)) rfl (by rw [F.2.1]; exact hd) (n := Int32.ofInt 6) (k := Int32.ofInt 9) (rest := st) rfl (by decide) (by decide) (by rw [n6]; exact Nat.le_of_ble_eq_true rfl) (by rw [n9]; exact Nat.le_of_ble_eq_true rfl) (by rw [n9]; exact Nat.le_of_ble_eq_true rfl) rfl rfl (by rw [n6]; show cells + (1 + 6) ≤ MC; omega) (by rw [n6, n9]; show slots + (6 + 6 * 9) ≤ MS; omega)
  rw [n6, n9] at X' step
  have ecA : cA = G.2.2.2.1 30 := Option.some.inj (fA.symm.trans ht30)
  have ecC : comp = G.2.2.2.1 20 := Option.some.inj (fC.symm.trans ht20)
  subst ecA
  subst ecC
  have hTh : (T.setVm vm₁).heap = H := hT
  obtain ⟨f1, f2, -, -⟩ := Jvm.Free.Multi.fill_facts (T.setVm vm₁) (G.2.2.2.1 30) (G.2.2.2.1 20) 6 9 (defaultValue .int) 6
  have hold : ∀ x : Nat, x < H.size → (Jvm.Free.Multi.fill (T.setVm vm₁) (G.2.2.2.1 30) (G.2.2.2.1 20) 6 9 (defaultValue .int) 6).heap[x]? = H[x]? := fun x hx => by
    have := Jvm.Free.Multi.fill_old (T.setVm vm₁) (G.2.2.2.1 30) (G.2.2.2.1 20) 6 9 (defaultValue .int) (a := x) (by rw [hTh]; exact hx) 6
    rw [hTh] at this
    exact this
  have hrow : ∀ j : Nat, j < 6 → (Jvm.Free.Multi.fill (T.setVm vm₁) (G.2.2.2.1 30) (G.2.2.2.1 20) 6 9 (defaultValue .int) 6).heap[H.size + 1 + j]? = some (arrV (G.2.2.2.1 20) 9 (fun _ => .int 0)) := fun j hj => by
    have := Jvm.Free.Multi.fill_inner (T.setVm vm₁) (G.2.2.2.1 30) (G.2.2.2.1 20) 6 9 (defaultValue .int) 6 j hj
    rw [hTh] at this
    rw [this, ← arrV_new]
    rfl
  generalize Jvm.Free.Multi.fill (T.setVm vm₁) (G.2.2.2.1 30) (G.2.2.2.1 20) 6 9 (defaultValue .int) 6 = FF at X' step f1 f2 hold hrow
  rw [hTh] at f1 f2
  rw [vr_outer0] at f2
  have hN1 : kN w (kmr σ k) = k + 7 := kG_N hw (by unfold kmr; rw [if_neg (by omega), if_neg (by omega), if_pos ⟨rfl, rfl⟩]; omega)
  have h1 : kHp G w (kmr σ k) s FF.heap locs := by
    refine ⟨?_, by rw [hN1]; exact h0.2.1, fun _ => by rw [hN1, f1, hz]; omega, ⟨by rw [f1]; have := h.2.2.2.1; omega, fun q h1 h2 => ?_, h.2.2.2.2.2⟩⟩
    · rw [hN1]
      intro x q hq
      obtain ⟨hk, rfl⟩ := kWL_of hq
      by_cases hl : x < k
      · have e : kCell G w (kmr σ k) x = kCell G w σ x := by
          have g : ∀ j : Int, kmr σ k x j = σ x j := fun j => by unfold kmr; rw [if_neg (by omega), if_neg (by omega), if_neg (by omega)]
          exact kCell_ne (fun j => g j) (fun j _ => by rw [hw.2]; exact g j)
        rw [e]
        have h0 := hP x _ (kWL_at hl)
        exact h0.kept (hold _ h0.lt)
      · by_cases hx : x = k
        · subst hx
          have ec : kCell G w (kmr σ x) x = .inl (G.2.2.2.1 30, (6, kArC G w (kmr σ x) x 30)) := by
            unfold kCell
            have e2 : w.1 x = (30, 6) := h0.2.2.1
            rw [e2]
            rfl
          rw [ec, ← hz]
          show FF.heap[H.size]? = some (vp_cell _ _)
          rw [f2, kArC_q (by omega), vp_cell_q]
          refine congrArg some (arrV_congr (fun j hj => ?_))
          rw [hw.2]
          show va_rf _ = va_rf (kRo G (kmr σ x x j))
          have e3 : kmr σ x x j = ((x + 1 + j : Nat) : Int) := by
            unfold kmr
            rw [if_neg (by omega), if_pos rfl, if_pos (by omega)]
            omega
          rw [e3, if_pos hj]
          unfold kRo
          rw [if_neg (by omega), kAd_pos (by omega)]
          congr 2
          omega
        · obtain ⟨j, hj⟩ : ∃ j, x = k + 1 + j := ⟨x - k - 1, by omega⟩
          subst hj
          have e2 : w.1 (k + 1 + j) = (20, 9) := h0.2.2.2 j (by omega)
          have ec : kCell G w (kmr σ k) (k + 1 + j) = .inl (G.2.2.2.1 20, (9, kArC G w (kmr σ k) (k + 1 + j) 20)) := by
            unfold kCell
            rw [e2]
            rfl
          rw [ec]
          show FF.heap[G.2.1 + (k + 1 + j)]? = some (vp_cell _ _)
          rw [show G.2.1 + (k + 1 + j) = H.size + 1 + j by omega, hrow j (by omega), kArC_i (by omega), vp_cell_i]
          refine congrArg some (arrV_congr (fun i hi => ?_))
          have e3 : kmr σ k ((k + 1 + j : Nat) : Int) i = 0 := by
            unfold kmr
            rw [if_pos (by omega)]
          rw [e3]; rfl
    · rw [hold q (Nat.lt_of_lt_of_le h1 h.2.2.2.1)]
      exact h.2.2.2.2.1 q h1 h2
  obtain ⟨t, a1, b1⟩ := kk p e s m args below meth c FF.heap locs (cells + 1 + 6) (slots + 6 + 6 * 9) MC MS la F h1 L (by omega) (by omega) FF rfl X'
  have ea : vA G ((k : Nat) : Int) = .ref T.heap.size := by
    show Value.ref (kAd G (k : Int)) = _
    rw [kAd_pos (by omega), hT, hz]; rfl
  rw [ea] at a1
  exact ⟨t, step t a1, b1⟩
theorem R_callIN {M' : Km} {idx d' mc' ms' : Nat} {a : Int} {as stk : List Value} {host : String} (n : Nat) (hd : decode M.2.1 pc = .ok (.invokespecial idx, 3)) (hM : kMdI M' n) (hl : Cond.methodLinkNest M.1.cls idx M'.1 host ∈ kNest) (hdd : d' + 1 ≤ d) (hL : M'.2.2.1 ≤ 45) (hn : as.length = n) (hst : stk = as.reverse ++ vA G a :: st) (hW : (st.map fun v => v.category).sum ≤ 8)
    (kk : Run G w M' d' mc' ms' (vA G a :: as) σ (fun r σ' => Ex G w M d mc ms (pc + 3) ls st σ' Q)) : Ex G w M d (mc + mc') (ms + ms') pc ls stk σ Q := by
  subst hst
  intro p e s m args below meth c H locs cells slots MC MS la F h L hc hs
  have hts := F.2.2.2.2.2.2.1
  have hret := hM.2.2.2.2.2
  have hG : GoodIn kTbl (Cond.code M'.1 M'.2.1 M'.2.2.1 M'.2.2.2 :: kTbl) := fun w hw => by
    have hin : w ∈ kTbl := (List.mem_cons.mp hw).elim (fun e => e ▸ hM.1) id
    exact ⟨hin, kTbl_ok w hin⟩
  have hCN := va_cnB (s := s) (args := args) (R := kRm d MC MS) (rm := kRm d' mc' ms') (mc := mc') (ms := ms') (own := M.1.cls) (host := host) (index := idx) (y := M'.1) (bytes := M'.2.1) (maxL := M'.2.2.1) (ret := M'.2.2.2) n hts hG rfl rfl rfl (F.2.2.2.2.2.2.2.1.2 _ hl) (hts _ hM.2.1) hM.2.2.1 ⟨(by show d' + 1 ≤ d; omega), (by show 8 + (M'.2.2.1 + 11) + 64 * d' ≤ 64 * d; omega)⟩
  unfold Run at kk
  rw [hret] at hCN
  rw [hret] at kk
  refine kBack (M' := M') (mc' := mc') (ms' := ms') (as := vA G a :: as) (rest := st) (K := fun r σ' => Ex G w M d mc ms (pc + 3) ls st σ' Q) h ?_ fun r σ' H1 locs1 hK h1 => ?_
  · rw [hret]
    exact va_runIN ⟨F.1, F.2.1, F.2.2.1, F.2.2.2.2.2.1, hts⟩ kk ⟨hCN, hM.2.2.2.2.1, hts _ hM.2.2.2.1⟩ ⟨kPc_blind, kPc_at F.2.2.2.2.2.2.2.1 F.2.2.2.2.2.2.2.2.1 h⟩ rfl hn L.1 rfl (lv_room hW) hd ⟨(by show cells + mc' ≤ MC; omega), (by show slots + ms' ≤ MS; omega)⟩
  · have := hK p e s m args below meth c H1 locs1 (cells + mc') (slots + ms') MC MS la F h1 L (by omega) (by omega)
    rw [hret]
    exact this
end
