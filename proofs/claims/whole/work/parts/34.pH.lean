/-- the hours that kite has the field, flown by the digits of code -/
noncomputable def sFly (kite c r : Int) : Nat → Int → (Int → Int) → Int → Int
  | 0, _, _, its => its
  | m + 1, code, v, its => kif (sMay v kite (code / 5 ^ m)) (sFly kite c r m (code % 5 ^ m) (sPass (sWalk v kite (code / 5 ^ m))) (its + kb (sOwn (sCuts (sWalk v kite (code / 5 ^ m))) c r (v 7 % 12) = kite))) (-1)
theorem pow5 : ∀ m : Nat, m ≤ 5 → 1 ≤ (5 : Int) ^ m ∧ (5 : Int) ^ m ≤ 3125
  | 0, _ => by decide
  | 1, _ => by decide
  | 2, _ => by decide
  | 3, _ => by decide
  | 4, _ => by decide
  | 5, _ => by decide
  | n + 6, h => absurd h (by omega)
theorem pow5_div {m : Nat} : (5 : Int) ^ (m + 1) / 5 = 5 ^ m := by
  rw [Int.pow_succ]; exact Int.mul_ediv_cancel _ (by decide)
theorem flies_loop {G : Kg} {σ : Kmem} {V : Int → Int} {kite c r K : Int} (hc : 0 ≤ c ∧ c ≤ 100) (hr : 0 ≤ r ∧ r ≤ 100) : ∀ (m : Nat) (by' code its : Int) (u : Int → Int), m ≤ 5 → (by' = if m = 0 then 0 else 5 ^ (m - 1)) → (0 ≤ code ∧ code ≤ 100000) → (wf u ∧ sKt u kite ∧ u 7 ≤ 20000 + 5 - m ∧ kfar u V) → K = sFly kite c r m code u its →
    E_X12_flies_32 G kite c r its by' code (kst σ 1 u) (fun x s => x = K ∧ ∃ u2, s = kst σ 1 u2 ∧ kfar u2 V) := by
  intro m
  induction m with
  | zero =>
    intro by' code its u hm hb hcode hu hK
    rw [if_pos rfl] at hb
    exact S_X12_flies_32 (l4 := 0) (l5 := 0) ⟨by omega, fun _ => ⟨hK.symm, u, rfl, hu.2.2.2⟩, fun q => by omega⟩
  | succ m ih =>
    intro by' code its u hm hb hcode hu hK
    obtain ⟨w, hk, h7, hf⟩ := hu
    have w1 := wf_h w
    have p5 := pow5 m (by omega)
    rw [if_neg (by omega), show m + 1 - 1 = m by omega] at hb
    have hk1 := hk.1
    have hk2 := hk.2
    have hd : 0 ≤ code / by' ∧ code / by' ≤ code := ⟨Int.ediv_nonneg hcode.1 (by omega), Int.ediv_le_self _ hcode.1⟩
    have hmod : 0 ≤ code % by' ∧ code % by' < by' := ⟨Int.emod_nonneg _ (by omega), Int.emod_lt_of_pos _ (by omega)⟩
    refine S_X12_flies_32 (l4 := 0) (l5 := 0) ?_
    simp only [kst_eq, kst_kst, kup_st]
    by_cases h : sMay u kite (code / by')
    · have ok := sWalk_ok w hk h
      have cu := sCuts_ok ok.1
      have wc := wf_h cu.1
      have t7 := (cu.2.trans ok.2.1) 7 (by omega) (by omega)
      have t2 := (cu.2.trans ok.2.1) 2 (by omega) (by omega)
      have o := sOwn_r (v := sCuts (sWalk u kite (code / by'))) (c := c) (r := r) (h := sCuts (sWalk u kite (code / by')) 7 % 12) cu.1
      have nx : ∀ x : Int, x = its + kb (sOwn (sCuts (sWalk u kite (code / by'))) c r (u 7 % 12) = kite) → E_X12_flies_32 G kite c r x (by' / 5) (code % by') (kst σ 1 (ku (sCuts (sWalk u kite (code / by'))) 7 (sCuts (sWalk u kite (code / by')) 7 + 1))) (fun x s => x = K ∧ ∃ u2, s = kst σ 1 u2 ∧ kfar u2 V) := by
        intro x hx
        have e : ku (sCuts (sWalk u kite (code / by'))) 7 (sCuts (sWalk u kite (code / by')) 7 + 1) = sPass (sWalk u kite (code / by')) := by
          unfold sPass; rw [cu.2 7 (by omega) (by omega)]
        rw [e]
        refine ih _ _ _ _ (by omega) ?_ (by omega) ⟨?_, ?_, ?_, ?_⟩ ?_
        · subst hb
          by_cases z : m = 0
          · subst z; rw [if_pos rfl]; decide
          · rw [if_neg z]
            obtain ⟨n, rfl⟩ : ∃ n, m = n + 1 := ⟨m - 1, by omega⟩
            exact pow5_div
        · rw [← e]; exact wf_now cu.1 (by omega)
        · rw [← e]; exact ⟨hk1, by rw [ku_ne (by omega), t2]; exact hk2⟩
        · rw [← e, ku_eq, t7]; omega
        · rw [← e]; exact (kfar_ku (by omega)).trans ((sCuts_far ok.1).trans (ok.2.2.trans hf))
        · rw [hK, sFly, ← hb, kif_t h, hx]
      rw [kif_t h]
      refine ⟨by omega, fun q => by omega, fun q => ⟨by omega, by omega, ⟨w, hk, by omega⟩, fun _ => ⟨by omega, by omega, ok.1, by omega, ⟨cu.1, hc, hr, by omega, by omega⟩, by omega, by omega, fun h2 => ⟨by omega, nx _ ?_⟩, fun h2 => ⟨by omega, nx _ ?_⟩⟩, fun q => absurd h q⟩⟩
      · rw [t7] at h2; rw [kb_0 h2]
      · rw [t7] at h2; rw [kb_1 h2]
    · rw [kif_f h]
      refine ⟨by omega, fun q => by omega, fun q => ⟨by omega, by omega, ⟨w, hk, by omega⟩, fun q => absurd q h, fun _ => ⟨?_, u, rfl, hf⟩⟩⟩
      rw [hK, sFly, ← hb, kif_f h]
theorem P_X12_flies {G : Kg} {σ : Kmem} {kite c r n code : Int} (p : wf (σ 1) ∧ sKt (σ 1) kite ∧ (0 ≤ c ∧ c ≤ 100) ∧ (0 ≤ r ∧ r ≤ 100) ∧ (1 ≤ n ∧ n ≤ 5) ∧ (0 ≤ code ∧ code ≤ 100000) ∧ σ 1 7 ≤ 20000) : Run G WM M_X12_flies 8 0 0 [vA G 0, vI kite, vI c, vI r, vI n, vI code] σ (fun x s => x = sFly kite c r n.toNat code (σ 1) 0 ∧ ∃ u2, s = kst σ 1 u2 ∧ kfar u2 (σ 1)) := by
  obtain ⟨w, hk, hc, hr, hn, hcode, h7⟩ := p
  refine S_X12_flies ?_
  have lp : ∀ (m : Nat) (i : Nat), i + m = n.toNat → 1 ≤ i → E_X12_flies_9 G kite c r n code 0 (5 ^ (i - 1)) i σ (fun x s => x = sFly kite c r n.toNat code (σ 1) 0 ∧ ∃ u2, s = kst σ 1 u2 ∧ kfar u2 (σ 1)) := by
    intro m
    induction m with
    | zero =>
      intro i hi h1
      refine S_X12_flies_9 ⟨by omega, by omega, fun _ => ?_, fun q => by omega⟩
      have := flies_loop (G := G) (σ := σ) (V := σ 1) (kite := kite) (K := sFly kite c r n.toNat code (σ 1) 0) hc hr n.toNat (5 ^ (i - 1)) code 0 (σ 1) (by omega) (by rw [if_neg (by omega), show i = n.toNat by omega]) hcode ⟨w, hk, by omega, kfar.refl⟩ rfl
      rw [kst_id] at this; exact this
    | succ m ih =>
      intro i hi h1
      refine S_X12_flies_9 ⟨by omega, by omega, fun q => by omega, fun _ => ?_⟩
      have := ih (i + 1) (by omega) (by omega)
      obtain ⟨j, rfl⟩ : ∃ j, i = j + 1 := ⟨i - 1, by omega⟩
      rw [show j + 1 + 1 - 1 = j + 1 by omega, Int.pow_succ] at this
      exact this
  exact lp (n.toNat - 1) 1 (by omega) (by omega)
/-- the most hours of the first n codes, and the first code that has them -/
noncomputable def sFlyBest (v : Int → Int) (kite c r : Int) (n N : Nat) : Int × Int := kfor (fun code a => kif (a.1 < sFly kite c r n code v 0) (sFly kite c r n code v 0, code) a) N (-1, 0)
def sFlown (w : Int → Int) (best : Int) (n : Nat) : Int → Int := fun i => if 0 ≤ i ∧ i < n then best / 5 ^ (n - 1 - i.toNat) % 5 else w i
