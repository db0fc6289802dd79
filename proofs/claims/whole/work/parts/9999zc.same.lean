/-! THE MADE WORLDS ARE THE WORLDS THAT RUN -/
theorem kCell_w {G : Kg} {w w' : Kw} {σ : Kmem} {a : Nat} (hs : w.1 a = w'.1 a) (h : ∀ k : Nat, kRef w a k → w.2.1 σ a k = w'.2.1 σ a k) : kCell G w σ a = kCell G w' σ a := by
  unfold kCell
  rw [← hs]
  by_cases hb : (w.1 a).1 < 20
  · rw [if_pos hb, if_pos hb]
    congr 2
    unfold kObj
    refine List.map_congr_left fun k _ => ?_
    cases hr : kIsR (kfty (w.1 a).1 k)
    · exact kEnc_nr hr
    · rw [h k (Or.inl ⟨hb, hr⟩)]
  · rw [if_neg hb, if_neg hb]
    congr 3
    unfold kArC
    split
    · rfl
    · split
      · rename_i h24
        congr 4
        funext k
        rw [h k (Or.inr h24)]
      · rfl
theorem kWL_w {G : Kg} {w w' : Kw} {σ : Kmem} {n : Nat} (h : ∀ a, a < n → kCell G w σ a = kCell G w' σ a) : kWL G w σ n = kWL G w' σ n := by
  unfold kWL
  refine List.map_congr_left fun a ha => ?_
  rw [h a (List.mem_range.mp ha)]
def S20 (σ : Kmem) : Prop := ∀ a j, 20 ≤ j → σ a j = 0
theorem S20_Z : S20 mZ := fun _ _ _ => rfl
theorem S20_up {σ : Kmem} {a j v : Int} (h : S20 σ) (hj : j < 20) : S20 (kup σ a j v) := fun b k q => by rw [kup_ne (fun z => by omega)]; exact h b k q
theorem S20_mk {σ : Kmem} {n : Int} (h : S20 σ) : S20 (kmk σ n) := fun b k q => by
  unfold kmk
  split
  · rfl
  · rw [if_neg (fun z => by omega)]; exact h b k q
theorem S20_mr {σ : Kmem} {n : Int} (h : S20 σ) : S20 (kmr σ n) := fun b k q => by
  unfold kmr
  split
  · rfl
  · split
    · rw [if_neg (by omega)]
    · rw [if_neg (fun z => by omega)]; exact h b k q
theorem S20_X2 {σ : Kmem} {a : Int} (h : S20 σ) : S20 (iX2 σ a) := by
  unfold iX2
  repeat (first | exact h | refine S20_up ?_ (by decide))
theorem S20_X3 {σ : Kmem} {a : Int} (h : S20 σ) : S20 (iX3 σ a) := by
  unfold iX3
  repeat (first | exact h | refine S20_up ?_ (by decide))
theorem S20_X9 {σ : Kmem} {a : Int} (h : S20 σ) : S20 (iX9 σ a) := by
  unfold iX9
  repeat (first | exact h | refine S20_up ?_ (by decide))
theorem S_mZ : S20 mZ := S20_Z
theorem S_mu0 : S20 mu0 := by
  unfold mu0
  repeat (first | exact S_mZ | refine S20_up ?_ (by decide) | refine S20_mk ?_ | refine S20_mr ?_ | refine S20_X2 ?_ | refine S20_X3 ?_ | refine S20_X9 ?_)
theorem S_mu1 : S20 mu1 := by
  unfold mu1
  repeat (first | exact S_mu0 | refine S20_up ?_ (by decide) | refine S20_mk ?_ | refine S20_mr ?_ | refine S20_X2 ?_ | refine S20_X3 ?_ | refine S20_X9 ?_)
theorem S_mu2 : S20 mu2 := by
  unfold mu2
  repeat (first | exact S_mu1 | refine S20_up ?_ (by decide) | refine S20_mk ?_ | refine S20_mr ?_ | refine S20_X2 ?_ | refine S20_X3 ?_ | refine S20_X9 ?_)
theorem S_mu3 : S20 mu3 := by
  unfold mu3
  repeat (first | exact S_mu2 | refine S20_up ?_ (by decide) | refine S20_mk ?_ | refine S20_mr ?_ | refine S20_X2 ?_ | refine S20_X3 ?_ | refine S20_X9 ?_)
theorem S_mu4 : S20 mu4 := by
  unfold mu4
  repeat (first | exact S_mu3 | refine S20_up ?_ (by decide) | refine S20_mk ?_ | refine S20_mr ?_ | refine S20_X2 ?_ | refine S20_X3 ?_ | refine S20_X9 ?_)
theorem S_mu5 : S20 mu5 := by
  unfold mu5
  repeat (first | exact S_mu4 | refine S20_up ?_ (by decide) | refine S20_mk ?_ | refine S20_mr ?_ | refine S20_X2 ?_ | refine S20_X3 ?_ | refine S20_X9 ?_)
theorem S_mu6 : S20 mu6 := by
  unfold mu6
  repeat (first | exact S_mu5 | refine S20_up ?_ (by decide) | refine S20_mk ?_ | refine S20_mr ?_ | refine S20_X2 ?_ | refine S20_X3 ?_ | refine S20_X9 ?_)
theorem S_mu7 : S20 mu7 := by
  unfold mu7
  repeat (first | exact S_mu6 | refine S20_up ?_ (by decide) | refine S20_mk ?_ | refine S20_mr ?_ | refine S20_X2 ?_ | refine S20_X3 ?_ | refine S20_X9 ?_)
theorem S_mu8 : S20 mu8 := by
  unfold mu8
  repeat (first | exact S_mu7 | refine S20_up ?_ (by decide) | refine S20_mk ?_ | refine S20_mr ?_ | refine S20_X2 ?_ | refine S20_X3 ?_ | refine S20_X9 ?_)
theorem S_mu9 : S20 mu9 := by
  unfold mu9
  repeat (first | exact S_mu8 | refine S20_up ?_ (by decide) | refine S20_mk ?_ | refine S20_mr ?_ | refine S20_X2 ?_ | refine S20_X3 ?_ | refine S20_X9 ?_)
theorem S_mu10 : S20 mu10 := by
  unfold mu10
  repeat (first | exact S_mu9 | refine S20_up ?_ (by decide) | refine S20_mk ?_ | refine S20_mr ?_ | refine S20_X2 ?_ | refine S20_X3 ?_ | refine S20_X9 ?_)
theorem S_mu11 : S20 mu11 := by
  unfold mu11
  repeat (first | exact S_mu10 | refine S20_up ?_ (by decide) | refine S20_mk ?_ | refine S20_mr ?_ | refine S20_X2 ?_ | refine S20_X3 ?_ | refine S20_X9 ?_)
theorem S_mu12 : S20 mu12 := by
  unfold mu12
  repeat (first | exact S_mu11 | refine S20_up ?_ (by decide) | refine S20_mk ?_ | refine S20_mr ?_ | refine S20_X2 ?_ | refine S20_X3 ?_ | refine S20_X9 ?_)
theorem S_mu13 : S20 mu13 := by
  unfold mu13
  repeat (first | exact S_mu12 | refine S20_up ?_ (by decide) | refine S20_mk ?_ | refine S20_mr ?_ | refine S20_X2 ?_ | refine S20_X3 ?_ | refine S20_X9 ?_)
theorem S_mu14 : S20 mu14 := by
  unfold mu14
  repeat (first | exact S_mu13 | refine S20_up ?_ (by decide) | refine S20_mk ?_ | refine S20_mr ?_ | refine S20_X2 ?_ | refine S20_X3 ?_ | refine S20_X9 ?_)
theorem S_mu15 : S20 mu15 := by
  unfold mu15
  repeat (first | exact S_mu14 | refine S20_up ?_ (by decide) | refine S20_mk ?_ | refine S20_mr ?_ | refine S20_X2 ?_ | refine S20_X3 ?_ | refine S20_X9 ?_)
theorem S_mu16 : S20 mu16 := by
  unfold mu16
  repeat (first | exact S_mu15 | refine S20_up ?_ (by decide) | refine S20_mk ?_ | refine S20_mr ?_ | refine S20_X2 ?_ | refine S20_X3 ?_ | refine S20_X9 ?_)
theorem S_mu17 : S20 mu17 := by
  unfold mu17
  repeat (first | exact S_mu16 | refine S20_up ?_ (by decide) | refine S20_mk ?_ | refine S20_mr ?_ | refine S20_X2 ?_ | refine S20_X3 ?_ | refine S20_X9 ?_)
theorem S_mu18 : S20 mu18 := by
  unfold mu18
  repeat (first | exact S_mu17 | refine S20_up ?_ (by decide) | refine S20_mk ?_ | refine S20_mr ?_ | refine S20_X2 ?_ | refine S20_X3 ?_ | refine S20_X9 ?_)
theorem S_mu19 : S20 mu19 := by
  unfold mu19
  repeat (first | exact S_mu18 | refine S20_up ?_ (by decide) | refine S20_mk ?_ | refine S20_mr ?_ | refine S20_X2 ?_ | refine S20_X3 ?_ | refine S20_X9 ?_)
theorem S_mu20 : S20 mu20 := by
  unfold mu20
  repeat (first | exact S_mu19 | refine S20_up ?_ (by decide) | refine S20_mk ?_ | refine S20_mr ?_ | refine S20_X2 ?_ | refine S20_X3 ?_ | refine S20_X9 ?_)
theorem S_mu21 : S20 mu21 := by
  unfold mu21
  repeat (first | exact S_mu20 | refine S20_up ?_ (by decide) | refine S20_mk ?_ | refine S20_mr ?_ | refine S20_X2 ?_ | refine S20_X3 ?_ | refine S20_X9 ?_)
theorem S_mu22 : S20 mu22 := by
  unfold mu22
  repeat (first | exact S_mu21 | refine S20_up ?_ (by decide) | refine S20_mk ?_ | refine S20_mr ?_ | refine S20_X2 ?_ | refine S20_X3 ?_ | refine S20_X9 ?_)
theorem S_mu23 : S20 mu23 := by
  unfold mu23
  repeat (first | exact S_mu22 | refine S20_up ?_ (by decide) | refine S20_mk ?_ | refine S20_mr ?_ | refine S20_X2 ?_ | refine S20_X3 ?_ | refine S20_X9 ?_)
theorem S_mu24 : S20 mu24 := by
  unfold mu24
  repeat (first | exact S_mu23 | refine S20_up ?_ (by decide) | refine S20_mk ?_ | refine S20_mr ?_ | refine S20_X2 ?_ | refine S20_X3 ?_ | refine S20_X9 ?_)
theorem S_mu25 : S20 mu25 := by
  unfold mu25
  repeat (first | exact S_mu24 | refine S20_up ?_ (by decide) | refine S20_mk ?_ | refine S20_mr ?_ | refine S20_X2 ?_ | refine S20_X3 ?_ | refine S20_X9 ?_)
theorem S_mu26 : S20 mu26 := by
  unfold mu26
  repeat (first | exact S_mu25 | refine S20_up ?_ (by decide) | refine S20_mk ?_ | refine S20_mr ?_ | refine S20_X2 ?_ | refine S20_X3 ?_ | refine S20_X9 ?_)
theorem S_mu27 : S20 mu27 := by
  unfold mu27
  repeat (first | exact S_mu26 | refine S20_up ?_ (by decide) | refine S20_mk ?_ | refine S20_mr ?_ | refine S20_X2 ?_ | refine S20_X3 ?_ | refine S20_X9 ?_)
theorem S_mu28 : S20 mu28 := by
  unfold mu28
  repeat (first | exact S_mu27 | refine S20_up ?_ (by decide) | refine S20_mk ?_ | refine S20_mr ?_ | refine S20_X2 ?_ | refine S20_X3 ?_ | refine S20_X9 ?_)
theorem S_mu29 : S20 mu29 := by
  unfold mu29
  repeat (first | exact S_mu28 | refine S20_up ?_ (by decide) | refine S20_mk ?_ | refine S20_mr ?_ | refine S20_X2 ?_ | refine S20_X3 ?_ | refine S20_X9 ?_)
theorem S_mu30 : S20 mu30 := by
  unfold mu30
  repeat (first | exact S_mu29 | refine S20_up ?_ (by decide) | refine S20_mk ?_ | refine S20_mr ?_ | refine S20_X2 ?_ | refine S20_X3 ?_ | refine S20_X9 ?_)
theorem S_mu31 : S20 mu31 := by
  unfold mu31
  repeat (first | exact S_mu30 | refine S20_up ?_ (by decide) | refine S20_mk ?_ | refine S20_mr ?_ | refine S20_X2 ?_ | refine S20_X3 ?_ | refine S20_X9 ?_)
theorem S_mu32 : S20 mu32 := by
  unfold mu32
  repeat (first | exact S_mu31 | refine S20_up ?_ (by decide) | refine S20_mk ?_ | refine S20_mr ?_ | refine S20_X2 ?_ | refine S20_X3 ?_ | refine S20_X9 ?_)
theorem S_mu33 : S20 mu33 := by
  unfold mu33
  repeat (first | exact S_mu32 | refine S20_up ?_ (by decide) | refine S20_mk ?_ | refine S20_mr ?_ | refine S20_X2 ?_ | refine S20_X3 ?_ | refine S20_X9 ?_)
theorem S_mu34 : S20 mu34 := by
  unfold mu34
  repeat (first | exact S_mu33 | refine S20_up ?_ (by decide) | refine S20_mk ?_ | refine S20_mr ?_ | refine S20_X2 ?_ | refine S20_X3 ?_ | refine S20_X9 ?_)
theorem S_mu35 : S20 mu35 := by
  unfold mu35
  repeat (first | exact S_mu34 | refine S20_up ?_ (by decide) | refine S20_mk ?_ | refine S20_mr ?_ | refine S20_X2 ?_ | refine S20_X3 ?_ | refine S20_X9 ?_)
theorem S_mu36 : S20 mu36 := by
  unfold mu36
  repeat (first | exact S_mu35 | refine S20_up ?_ (by decide) | refine S20_mk ?_ | refine S20_mr ?_ | refine S20_X2 ?_ | refine S20_X3 ?_ | refine S20_X9 ?_)
theorem S_mu37 : S20 mu37 := by
  unfold mu37
  repeat (first | exact S_mu36 | refine S20_up ?_ (by decide) | refine S20_mk ?_ | refine S20_mr ?_ | refine S20_X2 ?_ | refine S20_X3 ?_ | refine S20_X9 ?_)
theorem S_mu38 : S20 mu38 := by
  unfold mu38
  repeat (first | exact S_mu37 | refine S20_up ?_ (by decide) | refine S20_mk ?_ | refine S20_mr ?_ | refine S20_X2 ?_ | refine S20_X3 ?_ | refine S20_X9 ?_)
theorem S_mu39 : S20 mu39 := by
  unfold mu39
  repeat (first | exact S_mu38 | refine S20_up ?_ (by decide) | refine S20_mk ?_ | refine S20_mr ?_ | refine S20_X2 ?_ | refine S20_X3 ?_ | refine S20_X9 ?_)
theorem S_mu40 : S20 mu40 := by
  unfold mu40
  repeat (first | exact S_mu39 | refine S20_up ?_ (by decide) | refine S20_mk ?_ | refine S20_mr ?_ | refine S20_X2 ?_ | refine S20_X3 ?_ | refine S20_X9 ?_)
theorem S_mu41 : S20 mu41 := by
  unfold mu41
  repeat (first | exact S_mu40 | refine S20_up ?_ (by decide) | refine S20_mk ?_ | refine S20_mr ?_ | refine S20_X2 ?_ | refine S20_X3 ?_ | refine S20_X9 ?_)
theorem S_mu42 : S20 mu42 := by
  unfold mu42
  repeat (first | exact S_mu41 | refine S20_up ?_ (by decide) | refine S20_mk ?_ | refine S20_mr ?_ | refine S20_X2 ?_ | refine S20_X3 ?_ | refine S20_X9 ?_)
theorem S_mu43 : S20 mu43 := by
  unfold mu43
  repeat (first | exact S_mu42 | refine S20_up ?_ (by decide) | refine S20_mk ?_ | refine S20_mr ?_ | refine S20_X2 ?_ | refine S20_X3 ?_ | refine S20_X9 ?_)
theorem S_mu44 : S20 mu44 := by
  unfold mu44
  repeat (first | exact S_mu43 | refine S20_up ?_ (by decide) | refine S20_mk ?_ | refine S20_mr ?_ | refine S20_X2 ?_ | refine S20_X3 ?_ | refine S20_X9 ?_)
theorem S_mu45 : S20 mu45 := by
  unfold mu45
  repeat (first | exact S_mu44 | refine S20_up ?_ (by decide) | refine S20_mk ?_ | refine S20_mr ?_ | refine S20_X2 ?_ | refine S20_X3 ?_ | refine S20_X9 ?_)
theorem S_mu46 : S20 mu46 := by
  unfold mu46
  repeat (first | exact S_mu45 | refine S20_up ?_ (by decide) | refine S20_mk ?_ | refine S20_mr ?_ | refine S20_X2 ?_ | refine S20_X3 ?_ | refine S20_X9 ?_)
theorem S_mu47 : S20 mu47 := by
  unfold mu47
  repeat (first | exact S_mu46 | refine S20_up ?_ (by decide) | refine S20_mk ?_ | refine S20_mr ?_ | refine S20_X2 ?_ | refine S20_X3 ?_ | refine S20_X9 ?_)
theorem S_mu48 : S20 mu48 := by
  unfold mu48
  repeat (first | exact S_mu47 | refine S20_up ?_ (by decide) | refine S20_mk ?_ | refine S20_mr ?_ | refine S20_X2 ?_ | refine S20_X3 ?_ | refine S20_X9 ?_)
theorem S_mu49 : S20 mu49 := by
  unfold mu49
  repeat (first | exact S_mu48 | refine S20_up ?_ (by decide) | refine S20_mk ?_ | refine S20_mr ?_ | refine S20_X2 ?_ | refine S20_X3 ?_ | refine S20_X9 ?_)
theorem S_mu50 : S20 mu50 := by
  unfold mu50
  repeat (first | exact S_mu49 | refine S20_up ?_ (by decide) | refine S20_mk ?_ | refine S20_mr ?_ | refine S20_X2 ?_ | refine S20_X3 ?_ | refine S20_X9 ?_)
theorem S_mu51 : S20 mu51 := by
  unfold mu51
  repeat (first | exact S_mu50 | refine S20_up ?_ (by decide) | refine S20_mk ?_ | refine S20_mr ?_ | refine S20_X2 ?_ | refine S20_X3 ?_ | refine S20_X9 ?_)
def refb (a k : Nat) : Bool := if (shX.getD a (99, 0)).1 < 20 then kIsR (kfty (shX.getD a (99, 0)).1 k) else Nat.ble 24 (shX.getD a (99, 0)).1
theorem mu_refs : (List.range 205).all (fun a => (List.range 20).all (fun k => !refb a k || decide (mu51 (a : Int) (k : Int) = rfX mu51 (a : Int) (k : Int)))) = true := by decide +kernel
theorem rtX_short : ∀ a, a < 205 → (rtX.getD a []).length ≤ 20 := by decide +kernel
theorem refb_of {a k : Nat} (h : kRef WX0 a k) : refb a k = true := by
  unfold refb
  rcases h with ⟨h1, h2⟩ | h
  · have h1 : (shX.getD a (99, 0)).1 < 20 := h1
    rw [if_pos h1]; exact h2
  · have h : 24 ≤ (shX.getD a (99, 0)).1 := h
    rw [if_neg (by omega)]; exact Nat.ble_eq_true_of_le h
theorem mu_same {G : Kg} : kWL G WX0 mu51 205 = kWL G WX mu51 205 := by
  refine kWL_w (fun a ha => kCell_w rfl (fun k hk => ?_))
  show mu51 (a : Int) (k : Int) = rfX mu51 (a : Int) (k : Int)
  by_cases h : k < 20
  · have q := List.all_eq_true.mp (List.all_eq_true.mp mu_refs a (List.mem_range.mpr ha)) k (List.mem_range.mpr h)
    rw [refb_of hk] at q
    exact of_decide_eq_true q
  · rw [S_mu51 (a : Int) (k : Int) (by omega)]
    unfold rfX
    rw [if_neg (fun z => by omega)]
    have l := rtX_short a ha
    have e1 : ((a : Int)).toNat = a := Int.toNat_natCast a
    have e2 : ((k : Int)).toNat = k := Int.toNat_natCast k
    rw [e1, e2, List.getD_eq_getElem?_getD, List.getElem?_eq_none (by omega)]
    rfl
theorem nu_refs : (List.range 42).all (fun k => !kIsR (kfty 12 k) || decide (nu1 0 (k : Int) = rfM nu1 0 (k : Int))) = true := by decide +kernel
theorem nu_codes : ∀ a, a < 21 → a ≠ 0 → 20 ≤ (shM.getD a (99, 0)).1 ∧ (shM.getD a (99, 0)).1 < 24 := by decide +kernel
theorem nu_same {G : Kg} : kWL G WM0 nu1 21 = kWL G WM nu1 21 := by
  refine kWL_w (fun a ha => kCell_w rfl (fun k hk => ?_))
  by_cases h0 : a = 0
  · subst h0
    have hk : kIsR (kfty 12 k) = true := by
      rcases hk with ⟨-, h⟩ | h
      · exact h
      · exact absurd h (by decide)
    by_cases h : k < 42
    · have q := List.all_eq_true.mp nu_refs k (List.mem_range.mpr h)
      rw [hk] at q
      exact of_decide_eq_true q
    · obtain ⟨n, rfl⟩ : ∃ n, k = n + 42 := ⟨k - 42, by omega⟩
      have z : kIsR (kfty 12 (n + 42)) = false := rfl
      rw [z] at hk
      cases hk
  · have := nu_codes a ha h0
    rcases hk with ⟨h, -⟩ | h
    · have h : (shM.getD a (99, 0)).1 < 20 := h
      omega
    · have h : 24 ≤ (shM.getD a (99, 0)).1 := h
      omega
