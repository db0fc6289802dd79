/-- the hours that kite has the field, flown by the digits of code -/
noncomputable def sFly (kite c r : Int) : Nat → Int → (Int → Int) → Int → Int
  | 0, _, _, its => its
  | m + 1, code, v, its => kif (sMay v kite (code / 5 ^ m)) (sFly kite c r m (code % 5 ^ m) (sPass (sWalk v kite (code / 5 ^ m))) (its + kb (sOwn (sCuts (sWalk v kite (code / 5 ^ m))) c r (v 7 % 12) = kite))) (-1)
theorem pow5 : ∀ m : Nat, m ≤ 5 → 1 ≤ (5 : Int) ^ m ∧ (5 : Int) ^ m ≤ 3125
  | 0, _ => by decide
  | 1, _ => by decide
  | 2, _ => by decide
  | 3, _ => by decide
  | 4, _ => by decide
  | 5, _ => by decide
  | n + 6, h => absurd h (by omega)
theorem pow5_div {m : Nat} : (5 : Int) ^ (m + 1) / 5 = 5 ^ m := by
  rw [Int.pow_succ]; exact Int.mul_ediv_cancel _ (by decide)
theorem flies_loop {G : Kg} {σ : Kmem} {V : Int → Int} {kite c r K : Int} (hc : 0 ≤ c ∧ c ≤ 100) (hr : 0 ≤ r ∧ r ≤ 100) : ∀ (m : Nat) (by' code its : Int) (u : Int → Int), m ≤ 5 → (by' = if m = 0 then 0 else 5 ^ (m - 1)) → (0 ≤ code ∧ code ≤ 100000) → (wf u ∧ sKt u kite ∧ u 7 ≤ 20000 + 5 - m ∧ kfar u V) → K = sFly kite c r m code u its →
    E_X12_flies_32 G kite c r its by' code (kst σ 1 u) (fun x s => x = K ∧ ∃ u2, s = kst σ 1 u2 ∧ kfar u2 V) := by
  intro m
  induction m with
  | zero =>
    intro by' code its u hm hb hcode hu hK
    rw [if_pos rfl] at hb
    exact S_X12_flies_32 (l4 := 0) (l5 := 0) ⟨by omega, fun _ => ⟨hK.symm, u, rfl, hu.2.2.2⟩, fun q => by omega⟩
  | succ m ih =>
    intro by' code its u hm hb hcode hu hK
    obtain ⟨w, hk, h7, hf⟩ := hu
    have w1 := wf_h w
    have p5 := pow5 m (by omega)
    rw [if_neg (by omega), show m + 1 - 1 = m by omega] at hb
    have hk1 := hk.1
    have hk2 := hk.2
    have hd : 0 ≤ code / by' ∧ code / by' ≤ code := ⟨Int.ediv_nonneg hcode.1 (by omega), Int.ediv_le_self _ hcode.1⟩
    have hmod : 0 ≤ code % by' ∧ code % by' < by' := ⟨Int.emod_nonneg _ (by omega), Int.emod_lt_of_pos _ (by omega)⟩
    refine S_X12_flies_32 (l4 := 0) (l5 := 0) ?_
    simp only [kst_eq, kst_kst, kup_st]
    by_cases h : sMay u kite (code / by')
    · have ok := sWalk_ok w hk h
      have cu := sCuts_ok ok.1
      have wc := wf_h cu.1
      have t7 := (cu.2.trans ok.2.1) 7 (by omega) (by omega)
      have t2 := (cu.2.trans ok.2.1) 2 (by omega) (by omega)
      have o := sOwn_r (v := sCuts (sWalk u kite (code / by'))) (c := c) (r := r) (h := sCuts (sWalk u kite (code / by')) 7 % 12) cu.1
      have nx : ∀ x : Int, x = its + kb (sOwn (sCuts (sWalk u kite (code / by'))) c r (u 7 % 12) = kite) → E_X12_flies_32 G kite c r x (by' / 5) (code % by') (kst σ 1 (ku (sCuts (sWalk u kite (code / by'))) 7 (sCuts (sWalk u kite (code / by')) 7 + 1))) (fun x s => x = K ∧ ∃ u2, s = kst σ 1 u2 ∧ kfar u2 V) := by
        intro x hx
        have e : ku (sCuts (sWalk u kite (code / by'))) 7 (sCuts (sWalk u kite (code / by')) 7 + 1) = sPass (sWalk u kite (code / by')) := by
          unfold sPass; rw [cu.2 7 (by omega) (by omega)]
        rw [e]
        refine ih _ _ _ _ (by omega) ?_ (by omega) ⟨?_, ?_, ?_, ?_⟩ ?_
        · subst hb
          by_cases z : m = 0
          · subst z; rw [if_pos rfl]; decide
          · rw [if_neg z]
            obtain ⟨n, rfl⟩ : ∃ n, m = n + 1 := ⟨m - 1, by omega⟩
            exact pow5_div
        · rw [← e]; exact wf_now cu.1 (by omega)
        · rw [← e]; exact ⟨hk1, by rw [ku_ne (by omega), t2]; exact hk2⟩
        · rw [← e, ku_eq, t7]; omega
        · rw [← e]; exact (kfar_ku (by omega)).trans ((sCuts_far ok.1).trans (ok.2.2.trans hf))
        · rw [hK, sFly, ← hb, kif_t h, hx]
      rw [kif_t h]
      refine ⟨by omega, fun q => by omega, fun q => ⟨by omega, by omega, ⟨w, hk, by omega⟩, fun _ => ⟨by omega, by omega, ok.1, by omega, ⟨cu.1, hc, hr, by omega, by omega⟩, by omega, by omega, fun h2 => ⟨by omega, nx _ ?_⟩, fun h2 => ⟨by omega, nx _ ?_⟩⟩, fun q => absurd h q⟩⟩
      · rw [t7] at h2; rw [kb_0 h2]
      · rw [t7] at h2; rw [kb_1 h2]
    · rw [kif_f h]
      refine ⟨by omega, fun q => by omega, fun q => ⟨by omega, by omega, ⟨w, hk, by omega⟩, fun q => absurd q h, fun _ => ⟨?_, u, rfl, hf⟩⟩⟩
      rw [hK, sFly, ← hb, kif_f h]
theorem P_X12_flies {G : Kg} {σ : Kmem} {kite c r n code : Int} (p : wf (σ 1) ∧ sKt (σ 1) kite ∧ (0 ≤ c ∧ c ≤ 100) ∧ (0 ≤ r ∧ r ≤ 100) ∧ (1 ≤ n ∧ n ≤ 5) ∧ (0 ≤ code ∧ code ≤ 100000) ∧ σ 1 7 ≤ 20000) : Run G WM M_X12_flies 8 0 0 [vA G 0, vI kite, vI c, vI r, vI n, vI code] σ (fun x s => x = sFly kite c r n.toNat code (σ 1) 0 ∧ ∃ u2, s = kst σ 1 u2 ∧ kfar u2 (σ 1)) := by
  obtain ⟨w, hk, hc, hr, hn, hcode, h7⟩ := p
  refine S_X12_flies ?_
  have lp : ∀ (m : Nat) (i : Nat), i + m = n.toNat → 1 ≤ i → E_X12_flies_9 G kite c r n code 0 (5 ^ (i - 1)) i σ (fun x s => x = sFly kite c r n.toNat code (σ 1) 0 ∧ ∃ u2, s = kst σ 1 u2 ∧ kfar u2 (σ 1)) := by
    intro m
    induction m with
    | zero =>
      intro i hi h1
      refine S_X12_flies_9 ⟨by omega, by omega, fun _ => ?_, fun q => by omega⟩
      have := flies_loop (G := G) (σ := σ) (V := σ 1) (kite := kite) (K := sFly kite c r n.toNat code (σ 1) 0) hc hr n.toNat (5 ^ (i - 1)) code 0 (σ 1) (by omega) (by rw [if_neg (by omega), show i = n.toNat by omega]) hcode ⟨w, hk, by omega, kfar.refl⟩ rfl
      rw [kst_id] at this; exact this
    | succ m ih =>
      intro i hi h1
      refine S_X12_flies_9 ⟨by omega, by omega, fun q => by omega, fun _ => ?_⟩
      have := ih (i + 1) (by omega) (by omega)
      obtain ⟨j, rfl⟩ : ∃ j, i = j + 1 := ⟨i - 1, by omega⟩
      rw [show j + 1 + 1 - 1 = j + 1 by omega, Int.pow_succ] at this
      exact this
  exact lp (n.toNat - 1) 1 (by omega) (by omega)
/-- the most hours of the first n codes, and the first code that has them -/
noncomputable def sFlyBest (v : Int → Int) (kite c r : Int) (n N : Nat) : Int × Int := kfor (fun code a => kif (a.1 < sFly kite c r n code v 0) (sFly kite c r n code v 0, code) a) N (-1, 0)
def sFlown (w : Int → Int) (best : Int) (n : Nat) : Int → Int := fun i => if 0 ≤ i ∧ i < n then best / 5 ^ (n - 1 - i.toNat) % 5 else w i
theorem sFly_r {kite c r : Int} : ∀ (m : Nat) (code : Int) (v : Int → Int) (its : Int), 0 ≤ its → -1 ≤ sFly kite c r m code v its ∧ sFly kite c r m code v its ≤ its + m := by
  intro m
  induction m with
  | zero => intro code v its h; unfold sFly; omega
  | succ m ih =>
    intro code v its h
    unfold sFly
    by_cases q : sMay v kite (code / 5 ^ m)
    · rw [kif_t q]
      rcases kb_01 (sOwn (sCuts (sWalk v kite (code / 5 ^ m))) c r (v 7 % 12) = kite) with z | z
      · have := ih (code % 5 ^ m) (sPass (sWalk v kite (code / 5 ^ m))) (its + kb (sOwn (sCuts (sWalk v kite (code / 5 ^ m))) c r (v 7 % 12) = kite)) (by omega)
        omega
      · have := ih (code % 5 ^ m) (sPass (sWalk v kite (code / 5 ^ m))) (its + kb (sOwn (sCuts (sWalk v kite (code / 5 ^ m))) c r (v 7 % 12) = kite)) (by omega)
        omega
    · rw [kif_f q]; omega
theorem sFlyBest_r {v : Int → Int} {kite c r : Int} {n : Nat} (N : Nat) : (-1 ≤ (sFlyBest v kite c r n N).1 ∧ (sFlyBest v kite c r n N).1 ≤ n) ∧ 0 ≤ (sFlyBest v kite c r n N).2 ∧ (sFlyBest v kite c r n N).2 ≤ N := by
  refine kfor_inv (P := fun N (a : Int × Int) => (-1 ≤ a.1 ∧ a.1 ≤ n) ∧ 0 ≤ a.2 ∧ a.2 ≤ (N : Int)) ⟨⟨by show (-1 : Int) ≤ -1; omega, by show (-1 : Int) ≤ n; omega⟩, by show (0 : Int) ≤ 0; omega, by show (0 : Int) ≤ ((0 : Nat) : Int); omega⟩ N (fun i a hi h => ?_)
  have := sFly_r (kite := kite) (c := c) (r := r) n i v 0 (by omega)
  by_cases q : a.1 < sFly kite c r n i v 0
  · rw [kif_t q]; exact ⟨⟨this.1, by show sFly kite c r n i v 0 ≤ n; omega⟩, by show (0 : Int) ≤ i; omega, by show (i : Int) ≤ ((i + 1 : Nat) : Int); omega⟩
  · rw [kif_f q]; exact ⟨h.1, h.2.1, by have := h.2.2; omega⟩
theorem fly_dig {G : Kg} {most best : Int} {n : Nat} {w0 : Int → Int} {Q : Int → Kmem → Prop} {τ : Kmem} (hn : n ≤ 5) (hb : 0 ≤ best ∧ best ≤ 100000) (hQ : Q most (kup (kst τ 10 (sFlown w0 best n)) 0 2 0)) :
    ∀ (j : Nat) (b : Int), j ≤ n → b = best / 5 ^ (n - j) → E_X12_fly_140 G most b ((j : Int) - 1) (kst τ 10 (fun i => if (j : Int) ≤ i ∧ i < n then best / 5 ^ (n - 1 - i.toNat) % 5 else w0 i)) Q := by
  intro j
  induction j with
  | zero =>
    intro b hj hb2
    refine S_X12_fly_140 (l1 := 0) (l2 := 0) (l3 := 0) (l4 := 0) ⟨by omega, fun _ => ?_, fun q => by omega⟩
    exact hQ
  | succ j ih =>
    intro b hj hb2
    have p5 := pow5 (n - (j + 1)) (by omega)
    have b0 : 0 ≤ b ∧ b ≤ best := by rw [hb2]; exact ⟨Int.ediv_nonneg hb.1 (by omega), Int.ediv_le_self _ hb.1⟩
    refine S_X12_fly_140 (l1 := 0) (l2 := 0) (l3 := 0) (l4 := 0) ⟨by omega, fun _ => by omega, fun q => ⟨by omega, by omega, by omega, ?_⟩⟩
    rw [kup_st]
    have e : ku (fun i => if ((j + 1 : Nat) : Int) ≤ i ∧ i < n then best / 5 ^ (n - 1 - i.toNat) % 5 else w0 i) (((j + 1 : Nat) : Int) - 1) (b % 5) = fun i => if (j : Int) ≤ i ∧ i < n then best / 5 ^ (n - 1 - i.toNat) % 5 else w0 i := by
      funext i; unfold ku; dsimp only
      by_cases h : i = ((j + 1 : Nat) : Int) - 1
      · rw [if_pos h, if_pos (by omega), hb2, show n - 1 - i.toNat = n - (j + 1) by omega]
      · rw [if_neg h]
        by_cases h2 : ((j + 1 : Nat) : Int) ≤ i ∧ i < n
        · rw [if_pos h2, if_pos (by omega)]
        · rw [if_neg h2, if_neg (by omega)]
    rw [e, show (((j + 1 : Nat) : Int) - 1) + -1 = (j : Int) - 1 by omega]
    refine ih (b / 5) (by omega) ?_
    rw [hb2, show n - j = (n - (j + 1)) + 1 by omega, Int.pow_succ, Int.ediv_ediv_of_nonneg (by omega)]
theorem P_X12_fly {G : Kg} {σ : Kmem} {kite c r n : Int} (p : wf (σ 1) ∧ σ 1 7 ≤ 20000 ∧ (rI kite ∧ rI c) ∧ rI r ∧ rI n) : Run G WM M_X12_fly 9 0 0 [vA G 0, vI kite, vI c, vI r, vI n] σ (fun x s =>
    (¬ (sKt (σ 1) kite ∧ sFld (σ 1) c r ∧ 1 ≤ n ∧ n ≤ 5) → x = -1 ∧ s = kup σ 0 2 1) ∧
    ((sKt (σ 1) kite ∧ sFld (σ 1) c r ∧ 1 ≤ n ∧ n ≤ 5) → x = (sFlyBest (sKeep (σ 1) 3084) kite c r n.toNat (5 ^ n.toNat)).1 ∧ s = kup (kst (kup (kst σ 1 (sKeep (σ 1) 3084)) 0 26 n) 10 (sFlown (σ 10) (sFlyBest (sKeep (σ 1) 3084) kite c r n.toNat (5 ^ n.toNat)).2 n.toNat)) 0 2 0)) := by
  obtain ⟨w, h7, ⟨h1, h2⟩, h3, h4⟩ := p
  have w1 := wf_h w
  have no : ∀ x : Int, ¬ (sKt (σ 1) kite ∧ sFld (σ 1) c r ∧ 1 ≤ n ∧ n ≤ 5) → (¬ (sKt (σ 1) kite ∧ sFld (σ 1) c r ∧ 1 ≤ n ∧ n ≤ 5) → (-1 : Int) = -1 ∧ kup σ 0 2 1 = kup σ 0 2 1) ∧
    ((sKt (σ 1) kite ∧ sFld (σ 1) c r ∧ 1 ≤ n ∧ n ≤ 5) → -1 = (sFlyBest (sKeep (σ 1) 3084) kite c r n.toNat (5 ^ n.toNat)).1 ∧ kup σ 0 2 1 = kup (kst (kup (kst σ 1 (sKeep (σ 1) 3084)) 0 26 n) 10 (sFlown (σ 10) (sFlyBest (sKeep (σ 1) 3084) kite c r n.toNat (5 ^ n.toNat)).2 n.toNat)) 0 2 0) := fun x h => ⟨fun _ => ⟨rfl, rfl⟩, fun q => absurd q h⟩
  refine S_X12_fly ⟨⟨h1, w⟩, fun q => no 0 (fun y => q y.1), fun q => ⟨⟨⟨h2, h3⟩, w⟩, fun q2 => no 0 (fun y => q2 y.2.1), fun q2 => ⟨h4, by omega, fun q3 => ?_, fun q3 => no 0 (fun y => q3 y.2.2)⟩⟩⟩
  have wk := wf_keep (to := 3084) w (by omega)
  have k7 : sKeep (σ 1) 3084 7 = σ 1 7 := if_neg (by omega)
  have k2 : sKeep (σ 1) 3084 2 = σ 1 2 := if_neg (by omega)
  have p5 := pow5 n.toNat (by omega)
  have q11 := q.1
  have q12 := q.2
  have lp : ∀ (Q : Int → Kmem → Prop) (hQ : Q (sFlyBest (sKeep (σ 1) 3084) kite c r n.toNat (5 ^ n.toNat)).1 (kup (kst (kup (kst σ 1 (sKeep (σ 1) 3084)) 0 26 n) 10 (sFlown (σ 10) (sFlyBest (sKeep (σ 1) 3084) kite c r n.toNat (5 ^ n.toNat)).2 n.toNat)) 0 2 0)) (m : Nat) (i : Nat), i + m = n.toNat → E_X12_fly_42 G kite c r n (5 ^ i) i σ Q := by
    intro Q hQ m
    induction m with
    | zero =>
      intro i hi
      refine S_X12_fly_42 ⟨by omega, by omega, fun _ => ⟨by omega, ?_⟩, fun q => by omega⟩
      have e5 : (5 : Int) ^ i = ((5 ^ n.toNat : Nat) : Int) := by rw [show i = n.toNat by omega]; simp
      have p5n : ((5 ^ n.toNat : Nat) : Int) ≤ 3125 ∧ 1 ≤ ((5 ^ n.toNat : Nat) : Int) := by rw [← e5, show i = n.toNat by omega]; omega
      rw [e5]
      refine kloop (E := fun code z => E_X12_fly_77 G kite c r n ((5 ^ n.toNat : Nat) : Int) z.1 z.2 code (kst σ 1 (sKeep (σ 1) 3084)) Q) (sFlyBest (sKeep (σ 1) 3084) kite c r n.toNat) (5 ^ n.toNat) (fun code hcode ih => S_X12_fly_77 ?_)
      have br := sFlyBest_r (v := sKeep (σ 1) 3084) (kite := kite) (c := c) (r := r) (n := n.toNat) code
      have fr := sFly_r (kite := kite) (c := c) (r := r) n.toNat code (sKeep (σ 1) 3084) 0 (by omega)
      refine ⟨by omega, by omega, fun q => ?_, fun q => Run.mono (P_X12_flies (by rw [kst_eq]; exact ⟨wk, ⟨q11, by omega⟩, by omega, by omega, q3, by omega, by omega⟩)) (fun x s z => ?_)⟩
      · have ec : code = 5 ^ n.toNat := by omega
        subst ec
        have := fly_dig (G := G) (most := (sFlyBest (sKeep (σ 1) 3084) kite c r n.toNat (5 ^ n.toNat)).1) (best := (sFlyBest (sKeep (σ 1) 3084) kite c r n.toNat (5 ^ n.toNat)).2) (n := n.toNat) (w0 := σ 10) (τ := kup (kst σ 1 (sKeep (σ 1) 3084)) 0 26 n) (Q := Q) (by omega) (by omega) hQ n.toNat (sFlyBest (sKeep (σ 1) 3084) kite c r n.toNat (5 ^ n.toNat)).2 (by omega) (by rw [Nat.sub_self]; simp)
        have e : kst (kup (kst σ 1 (sKeep (σ 1) 3084)) 0 26 n) 10 (fun i => if ((n.toNat : Nat) : Int) ≤ i ∧ i < ((n.toNat : Nat) : Int) then (sFlyBest (sKeep (σ 1) 3084) kite c r n.toNat (5 ^ n.toNat)).2 / 5 ^ (n.toNat - 1 - i.toNat) % 5 else σ 10 i) = kup (kst σ 1 (sKeep (σ 1) 3084)) 0 26 n := by
          funext x k; unfold kst kup; dsimp only
          by_cases h : x = 10
          · rw [if_pos h, if_neg (by omega), if_neg (by omega), if_neg (by omega), h]
          · rw [if_neg h]
        rw [e, show ((n.toNat : Nat) : Int) = n by omega] at this
        exact this
      · obtain ⟨rfl, u2, rfl, hf⟩ := z
        rw [kst_eq] at hf
        rw [kst_eq, kst_kst, kst_kst, kst_eq, sRest_keep hf (by omega)]
        have ih := ih (by omega)
        refine ⟨by omega, by omega, by omega, fun h => ?_, fun h => ?_⟩
        · rw [show sFlyBest (sKeep (σ 1) 3084) kite c r n.toNat (code + 1) = kif ((sFlyBest (sKeep (σ 1) 3084) kite c r n.toNat code).1 < sFly kite c r n.toNat code (sKeep (σ 1) 3084) 0) (sFly kite c r n.toNat code (sKeep (σ 1) 3084) 0, (code : Int)) (sFlyBest (sKeep (σ 1) 3084) kite c r n.toNat code) from rfl, kif_t h] at ih; exact ih
        · rw [show sFlyBest (sKeep (σ 1) 3084) kite c r n.toNat (code + 1) = kif ((sFlyBest (sKeep (σ 1) 3084) kite c r n.toNat code).1 < sFly kite c r n.toNat code (sKeep (σ 1) 3084) 0) (sFly kite c r n.toNat code (sKeep (σ 1) 3084) 0, (code : Int)) (sFlyBest (sKeep (σ 1) 3084) kite c r n.toNat code) from rfl, kif_f (by omega)] at ih; exact ih
    | succ m ih =>
      intro i hi
      refine S_X12_fly_42 ⟨by omega, by omega, fun q => by omega, fun _ => ?_⟩
      have := ih (i + 1) (by omega)
      rw [Int.pow_succ] at this; exact this
  exact lp _ ⟨fun y => absurd ⟨q, q2, q3⟩ y, fun _ => ⟨rfl, rfl⟩⟩ n.toNat 0 (by omega)
