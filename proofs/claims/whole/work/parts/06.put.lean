section
variable {G : Kg} {w : Kw} {M : Km} {d mc ms pc : Nat} {ls : List (Nat × Value)} {st : List Value} {σ : Kmem} {Q : Int → Kmem → Prop}
variable {p : Program} {e : Env} {s : State} {m : MethodId} {args : Array Value} {below : List Frame} {meth : Method} {c : Code} {H : Heap} {locs : List Loc} {cells slots MC MS : Nat} {la : Array Slot} {R : Room} {QQ : State → Prop}
theorem kPutW {a : Int} {ci j idx : Nat} {v : Value} (F : kFx G w M p s m args meth c) (h : kHp G w σ s H locs) (hd : decode M.2.1 pc = .ok (.putfield idx, 3)) (hF : kFld M.1.cls idx ci j) (ha : kIs w σ a ci) (hfin : (kCT ci j).2.2.2 = false) (hn : narrow (kfty ci j) v = v) (hfit : fits (kfty ci j) v = true)
    (kk : ∀ (H1 : Heap) (locs1 : List Loc), va_P G.2.2.1 vwCl ((kWL G w σ (kN w σ)).set a.toNat (kAd G a, .inr (ci, (kObj G w σ a.toNat ci).set j v))) H1 → H1.size = H.size → va_S (kA G w) s.heap H1 locs1 → W p G.1 e R s m args below meth c H1 locs1 cells slots QQ (F0 m (pc + 3) la st)) : W p G.1 e R s m args below meth c H locs cells slots QQ (F0 m pc la (v :: vA G a :: st)) := by
  obtain ⟨hx, hb, -, -, -, hown, hts, ⟨hK, -⟩, -, -⟩ := F
  obtain ⟨hci, hk, hlw⟩ := hF
  have hc := kCl_at hci
  have hin := kTbl_cls hci
  have hty := kCT_ok ci hci
  have he := kWL_obj (G := G) ha rfl (by omega : ci < 20)
  have hD : va_D (kA G w) (kWL G w σ (kN w σ)) := kWL_D h.2.1
  have hap := va_apart (own := M.1.cls) hts hin (kfty ci) hty (kCT_nm ci hci) hK hc
  obtain ⟨r, h1, cell, q1, q2, q3, q4⟩ := h.1 a.toNat _ he
  have hr : r = (kCn ci, kCT ci, knf ci) := Option.some.inj (h1.symm.trans hc)
  subst hr
  obtain ⟨hS, hfc, kC, hkC, hkind⟩ := hK.1 ci _ hc
  obtain ⟨cf, kf, fi, f, hi, hsl⟩ := hS j hk
  have hlay := hts _ (hin _ (u_in_lay hk))
  unfold u_lay at hlay
  rw [if_neg (by rw [hfin]; decide)] at hlay
  have hst := (u_facts hfc hkC (u_lays hts hin hk) hi).1
  have h6 := u_store hfc hkC hkind hlay hi (hty j hk) hn hfit
  refine W.putK hx hb (f := f) ⟨hown, hts _ hlw, ⟨_, _, _, hi⟩, hst⟩ (by rw [q2]; exact h6) q1 q3 (by rw [hsl]; exact k2_hasslot (q4 j hk)) rfl rfl hd fun H' e1 e2 e3 => ?_
  rw [hsl] at e1 ⊢
  have hlen : j < (kObj G w σ a.toNat ci).length := by simp [kObj]; exact hk
  exact kk H' _ (h.1.set hD he ⟨_, hc, t_OB.to (V := updV (vp_V (kObj G w σ a.toNat ci)) j v) ⟨_, e1, q2, q3, t_set q4 hap hk v⟩ (fun j _ => vp_updV_set hlen v j)⟩ e3) e2 (h.2.2.2.put e2 e3 (hD.2 a.toNat _ he))
theorem kPutFW {a : Int} {ci j idx : Nat} {v : Value} (F : kFx G w M p s m args meth c) (h : kHp G w σ s H locs) (hd : decode M.2.1 pc = .ok (.putfield idx, 3)) (hF : kFld M.1.cls idx ci j) (ha : kIs w σ a ci) (hfin : (kCT ci j).2.2.2 = true) (hin2 : M.1.name = "<init>") (hdecl : (kCT ci j).1 = M.1.cls) (hn : narrow (kfty ci j) v = v) (hfit : fits (kfty ci j) v = true)
    (kk : ∀ (H1 : Heap) (locs1 : List Loc), va_P G.2.2.1 vwCl ((kWL G w σ (kN w σ)).set a.toNat (kAd G a, .inr (ci, (kObj G w σ a.toNat ci).set j v))) H1 → H1.size = H.size → va_S (kA G w) s.heap H1 locs1 → W p G.1 e R s m args below meth c H1 locs1 cells slots QQ (F0 m (pc + 3) la st)) : W p G.1 e R s m args below meth c H locs cells slots QQ (F0 m pc la (v :: vA G a :: st)) := by
  obtain ⟨hx, hb, -, -, -, hown, hts, ⟨hK, -⟩, -, hname⟩ := F
  obtain ⟨hci, hk, hlw⟩ := hF
  have hc := kCl_at hci
  have hin := kTbl_cls hci
  have hty := kCT_ok ci hci
  have he := kWL_obj (G := G) ha rfl (by omega : ci < 20)
  have hD : va_D (kA G w) (kWL G w σ (kN w σ)) := kWL_D h.2.1
  have hap := va_apart (own := M.1.cls) hts hin (kfty ci) hty (kCT_nm ci hci) hK hc
  obtain ⟨r, h1, cell, q1, q2, q3, q4⟩ := h.1 a.toNat _ he
  have hr : r = (kCn ci, kCT ci, knf ci) := Option.some.inj (h1.symm.trans hc)
  subst hr
  obtain ⟨hS, hfc, kC, hkC, hkind⟩ := hK.1 ci _ hc
  obtain ⟨cf, kf, fi, f, hi, hsl⟩ := hS j hk
  have hlay := hts _ (hin _ (u_in_lay hk))
  unfold u_lay at hlay
  rw [if_pos hfin] at hlay
  have hst := (u_facts hfc hkC (u_lays hts hin hk) hi).1
  have hcf : m.cls = cf := by
    obtain ⟨_, _, c', _, _, _, -, -, hf', -, -, -, hown2, -⟩ := Cond.laysFinal_spec hlay
    have e1 : c' = cf := by have := hi.symm.trans hf'; simp at this; exact this.1.symm
    rw [hdecl] at hown2
    rw [← e1]; exact Option.some.inj (hown.symm.trans hown2)
  have h6 := u_fits hfc hkC hkind (Or.inr hlay) hi (hty j hk) hn hfit
  refine W.putFinK hx hb hown (hts _ hlw) hi hst hcf (hname.trans hin2) (by rw [q2]; exact h6) q1 q3 (by rw [hsl]; exact k2_hasslot (q4 j hk)) rfl rfl hd fun H' e1 e2 e3 => ?_
  rw [hsl] at e1 ⊢
  have hlen : j < (kObj G w σ a.toNat ci).length := by simp [kObj]; exact hk
  exact kk H' _ (h.1.set hD he ⟨_, hc, t_OB.to (V := updV (vp_V (kObj G w σ a.toNat ci)) j v) ⟨_, e1, q2, q3, t_set q4 hap hk v⟩ (fun j _ => vp_updV_set hlen v j)⟩ e3) e2 (h.2.2.2.put e2 e3 (hD.2 a.toNat _ he))
/-- the object's fields behind a store -/
theorem kObj_set {σ' : Kmem} {a ci j : Nat} {v : Value} (h1 : ∀ k : Nat, k ≠ j → σ' a k = σ a k) (h2 : ∀ k : Nat, k ≠ j → kIsR (kfty ci k) = true → w.2.1 σ' a k = w.2.1 σ a k) (hv : kEnc G (kfty ci j) (w.2.1 σ' a j) (σ' a j) = v) (hj : j < knf ci) : (kObj G w σ a ci).set j v = kObj G w σ' a ci := by
  have hlen : (kObj G w σ a ci).length = knf ci := by simp [kObj]
  have hlen' : (kObj G w σ' a ci).length = knf ci := by simp [kObj]
  apply List.ext_getElem?
  intro k
  by_cases hk : k = j
  · subst hk
    rw [List.getElem?_set_self (by rw [hlen]; exact hj), kObj_at hj, hv]
  · rw [List.getElem?_set_ne (Ne.symm hk)]
    by_cases hl : k < knf ci
    · rw [kObj_at hl, kObj_at hl, h1 k hk]
      cases hr : kIsR (kfty ci k)
      · rw [kEnc_nr hr]
      · rw [h2 k hk hr]
    · rw [List.getElem?_eq_none (by omega), List.getElem?_eq_none (by omega)]
theorem kSetObj {σ' : Kmem} {a : Int} {ci j : Nat} {v : Value} (ha : kIs w σ a ci) (hc : ci < 20) (hj : j < knf ci) (h1 : ∀ b k : Nat, ¬ (b = a.toNat ∧ k = j) → σ' b k = σ b k) (h2 : ∀ b k : Nat, ¬ (b = a.toNat ∧ k = j) → kRef w b k → w.2.1 σ' b k = w.2.1 σ b k) (hv : kEnc G (kfty ci j) (w.2.1 σ' a.toNat j) (σ' a.toNat j) = v) :
    (kWL G w σ (kN w σ)).set a.toNat (kAd G a, .inr (ci, (kObj G w σ a.toNat ci).set j v)) = kWL G w σ' (kN w σ) := by
  rw [kAd_pos ha.1]
  refine kWL_set ha.2.1 (fun b k hb => h1 b k (fun q => hb q.1)) (fun b k hb => h2 b k (fun q => hb q.1)) ?_
  unfold kCell
  rw [if_pos (by rw [ha.2.2]; exact hc), ha.2.2, kObj_set (fun k hk => h1 _ k (fun q => hk q.2)) (fun k hk hr => h2 _ k (fun q => hk q.2) (Or.inl (by rw [ha.2.2]; exact ⟨hc, hr⟩))) hv hj]
theorem R_putI {a : Int} (ci j : Nat) {idx : Nat} {x : Int} (jj : Int) (hw : kOK w) (hd : decode M.2.1 pc = .ok (.putfield idx, 3)) (hF : kFld M.1.cls idx ci j) (ha : kIs w σ a ci) (hfin : (kCT ci j).2.2.2 = false) (hty : kfty ci j = .int) (hj : (j : Int) = jj) (kk : Ex G w M d mc ms (pc + 3) ls st (kup σ a jj x) Q) : Ex G w M d mc ms pc ls (vI x :: vA G a :: st) σ Q := by
  subst hj
  intro p e s m args below meth c H locs cells slots MC MS la F h L hc hs
  refine kPutW F h hd hF ha hfin (by rw [hty]; rfl) (by rw [hty]; rfl) fun H1 locs1 hP hz hS => ?_
  have hnr : ¬ kRef w a.toNat j := fun q => by
    rcases q with ⟨-, q⟩ | q
    · rw [ha.2.2, hty] at q; cases q
    · rw [ha.2.2] at q; have := hF.1; omega
  have hr := hw σ a.toNat j x hnr
  rw [kto ha.1] at hr
  rw [kSetObj (σ' := kup σ a j x) ha (by have := hF.1; omega) hF.2.1 (fun b k hb => kup_ne (fun q => hb ⟨by have := ha.1; omega, by omega⟩)) (fun b k _ hbk => hr b k hbk) (by rw [hty, kto ha.1, kup_eq]; rfl)] at hP
  exact kk p e s m args below meth c H1 locs1 cells slots MC MS la F (kHp_st h (kN_up ha.1) hz hP hS) L hc hs
theorem R_putZ {a : Int} (ci j : Nat) {idx : Nat} {x : Int} (jj : Int) (hw : kOK w) (hd : decode M.2.1 pc = .ok (.putfield idx, 3)) (hF : kFld M.1.cls idx ci j) (ha : kIs w σ a ci) (hfin : (kCT ci j).2.2.2 = false) (hty : kfty ci j = .boolean) (hj : (j : Int) = jj) (hx : x = 0 ∨ x = 1) (kk : Ex G w M d mc ms (pc + 3) ls st (kup σ a jj x) Q) : Ex G w M d mc ms pc ls (vI x :: vA G a :: st) σ Q := by
  subst hj
  intro p e s m args below meth c H locs cells slots MC MS la F h L hc hs
  refine kPutW F h hd hF ha hfin (by rw [hty]; rcases hx with rfl | rfl <;> rfl) (by rw [hty]; rcases hx with rfl | rfl <;> rfl) fun H1 locs1 hP hz hS => ?_
  have hnr : ¬ kRef w a.toNat j := fun q => by
    rcases q with ⟨-, q⟩ | q
    · rw [ha.2.2, hty] at q; cases q
    · rw [ha.2.2] at q; have := hF.1; omega
  have hr := hw σ a.toNat j x hnr
  rw [kto ha.1] at hr
  rw [kSetObj (σ' := kup σ a j x) ha (by have := hF.1; omega) hF.2.1 (fun b k hb => kup_ne (fun q => hb ⟨by have := ha.1; omega, by omega⟩)) (fun b k _ hbk => hr b k hbk) (by rw [hty, kto ha.1, kup_eq]; rfl)] at hP
  exact kk p e s m args below meth c H1 locs1 cells slots MC MS la F (kHp_st h (kN_up ha.1) hz hP hS) L hc hs
theorem R_putL {a : Int} (ci j : Nat) {idx : Nat} {x : Int} (jj : Int) (hw : kOK w) (hd : decode M.2.1 pc = .ok (.putfield idx, 3)) (hF : kFld M.1.cls idx ci j) (ha : kIs w σ a ci) (hfin : (kCT ci j).2.2.2 = false) (hty : kfty ci j = .long) (hj : (j : Int) = jj) (kk : Ex G w M d mc ms (pc + 3) ls st (kup σ a jj x) Q) : Ex G w M d mc ms pc ls (vL x :: vA G a :: st) σ Q := by
  subst hj
  intro p e s m args below meth c H locs cells slots MC MS la F h L hc hs
  refine kPutW F h hd hF ha hfin (by rw [hty]; rfl) (by rw [hty]; rfl) fun H1 locs1 hP hz hS => ?_
  have hnr : ¬ kRef w a.toNat j := fun q => by
    rcases q with ⟨-, q⟩ | q
    · rw [ha.2.2, hty] at q; cases q
    · rw [ha.2.2] at q; have := hF.1; omega
  have hr := hw σ a.toNat j x hnr
  rw [kto ha.1] at hr
  rw [kSetObj (σ' := kup σ a j x) ha (by have := hF.1; omega) hF.2.1 (fun b k hb => kup_ne (fun q => hb ⟨by have := ha.1; omega, by omega⟩)) (fun b k _ hbk => hr b k hbk) (by rw [hty, kto ha.1, kup_eq]; rfl)] at hP
  exact kk p e s m args below meth c H1 locs1 cells slots MC MS la F (kHp_st h (kN_up ha.1) hz hP hS) L hc hs
/-- a store of a reference: the reader must tell it -/
def kPutsR (w : Kw) (σ : Kmem) (a : Int) (j : Nat) (f : Int) : Prop := w.2.1 (kup σ a j f) a.toNat j = f ∧ f ≠ 0 ∧ ∀ b k : Nat, ¬ (b = a.toNat ∧ k = j) → kRef w b k → w.2.1 (kup σ a j f) b k = w.2.1 σ b k
theorem R_putA {a f : Int} (ci j : Nat) {idx : Nat} (jj : Int) (hd : decode M.2.1 pc = .ok (.putfield idx, 3)) (hF : kFld M.1.cls idx ci j) (ha : kIs w σ a ci) (hfin : (kCT ci j).2.2.2 = false ∨ ((kCT ci j).2.2.2 = true ∧ M.1.name = "<init>" ∧ (kCT ci j).1 = M.1.cls)) (hty : kIsR (kfty ci j) = true) (hp : kPutsR w σ a j f) (hj : (j : Int) = jj) (kk : Ex G w M d mc ms (pc + 3) ls st (kup σ a jj f) Q) : Ex G w M d mc ms pc ls (vA G f :: vA G a :: st) σ Q := by
  subst hj
  intro p e s m args below meth c H locs cells slots MC MS la F h L hc hs
  have hn : narrow (kfty ci j) (vA G f) = vA G f := by cases hz : kfty ci j <;> first | rfl | (rw [hz] at hty; cases hty)
  have hf : fits (kfty ci j) (vA G f) = true := by cases hz : kfty ci j <;> first | rfl | (rw [hz] at hty; cases hty)
  have hrest : ∀ (H1 : Heap) (locs1 : List Loc), va_P G.2.2.1 vwCl ((kWL G w σ (kN w σ)).set a.toNat (kAd G a, .inr (ci, (kObj G w σ a.toNat ci).set j (vA G f)))) H1 → H1.size = H.size → va_S (kA G w) s.heap H1 locs1 → W p G.1 e (kRm d MC MS) s m args below meth c H1 locs1 cells slots (MQ below (kQ G w M.2.2.2 Q) args s MC MS (kA G w)) (F0 m (pc + 3) la st) := fun H1 locs1 hP hz hS => by
    rw [kSetObj (σ' := kup σ a j f) ha (by have := hF.1; omega) hF.2.1 (fun b k hb => kup_ne (fun q => hb ⟨by have := ha.1; omega, by omega⟩)) hp.2.2 (by
      rw [hp.1]
      have e0 : kRf G f = vA G f := by unfold kRf kRo; rw [if_neg hp.2.1]; rfl
      cases hz : kfty ci j <;> first | exact e0 | (rw [hz] at hty; cases hty))] at hP
    exact kk p e s m args below meth c H1 locs1 cells slots MC MS la F (kHp_st h (kN_up ha.1) hz hP hS) L hc hs
  rcases hfin with hfin | ⟨h1, h2, h3⟩
  · exact kPutW F h hd hF ha hfin hn hf hrest
  · exact kPutFW F h hd hF ha h1 h2 h3 hn hf hrest
end
