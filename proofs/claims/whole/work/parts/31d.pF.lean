theorem kst_swap {σ : Kmem} {a b : Int} {u w u' : Int → Int} (h : a ≠ b) : kst (kst (kst σ a u) b w) a u' = kst (kst σ a u') b w := by
  funext x k; unfold kst
  by_cases q : x = a
  · rw [if_pos q, if_neg (by omega), if_pos q]
  · rw [if_neg q]
    by_cases q2 : x = b
    · rw [if_pos q2, if_pos q2]
    · rw [if_neg q2, if_neg q2, if_neg q, if_neg q]
theorem kst_two {σ : Kmem} {a b : Int} {u w : Int → Int} (h : a ≠ b) : kst (kst σ a u) b w a = u := by rw [kst_ne h, kst_eq]
/-- an hour of strings and shadows alone -/
noncomputable def sPass (u : Int → Int) : Int → Int := ku (sCuts u) 7 (u 7 + 1)
noncomputable def sPasses (v : Int → Int) (n : Nat) : Int → Int := kfor (fun _ u => sPass u) n v
def sHas (u : Int → Int) (kite c r : Int) : Prop := sOwn u c r (u 7 % 12) ≠ -1 ∧ (kite = -1 ∨ sOwn u c r (u 7 % 12) = kite)
/-- how many of the next n hours the field is kite's (or anybody's) -/
noncomputable def sLay (v : Int → Int) (kite c r : Int) (n : Nat) : Int := kfor (fun i a => a + kb (sHas (sCuts (sPasses v i.toNat)) kite c r)) n 0
theorem sPasses_ok {v : Int → Int} (w : wf v) (n : Nat) (h7 : v 7 + n ≤ 100000) : wf (sPasses v n) ∧ (∀ j, 0 ≤ j → j < 34 → j ≠ 7 → sPasses v n j = v j) ∧ sPasses v n 7 = v 7 + n ∧ kfar (sPasses v n) v := by
  have : (n : Int) ≤ n → wf (sPasses v n) ∧ (∀ j, 0 ≤ j → j < 34 → j ≠ 7 → sPasses v n j = v j) ∧ sPasses v n 7 = v 7 + n ∧ kfar (sPasses v n) v := by
    refine kfor_inv (P := fun i u => (i : Int) ≤ n → wf u ∧ (∀ j, 0 ≤ j → j < 34 → j ≠ 7 → u j = v j) ∧ u 7 = v 7 + (i : Int) ∧ kfar u v) (fun _ => ⟨w, fun _ _ _ _ => rfl, by omega, kfar.refl⟩) n (fun i a hi h h2 => ?_)
    have h := h (by omega)
    have ok := sCuts_ok h.1
    have w1 := wf_h h.1
    refine ⟨wf_now ok.1 (by omega), fun j a b c => ?_, ?_, (kfar_ku (by omega)).trans ((sCuts_far h.1).trans h.2.2.2)⟩
    · unfold sPass; rw [ku_ne c]; exact (ok.2 j a b).trans (h.2.1 j a b c)
    · unfold sPass; rw [ku_eq]; omega
  exact this (by omega)
/-- the sums so far: those behind (c, r) are not yet reached in this hour -/
noncomputable def sLayW (v w0 : Int → Int) (kite : Int) (i : Nat) (c r : Int) : Int → Int := fun j => if 0 ≤ j ∧ j < 70 then kif (sFld v (j % 10) (j / 10)) (kif (j % 10 < c ∨ j % 10 = c ∧ j / 10 < r) (sLay v kite (j % 10) (j / 10) (i + 1)) (sLay v kite (j % 10) (j / 10) i)) 0 else w0 j
theorem sLayW_0 {v w0 : Int → Int} {kite : Int} : sLayW v w0 kite 0 0 0 = fun j => if 0 ≤ j ∧ j < 70 then 0 else w0 j := by
  funext j
  unfold sLayW
  by_cases h : 0 ≤ j ∧ j < 70
  · rw [if_pos h, if_pos h]
    by_cases q : sFld v (j % 10) (j / 10)
    · rw [kif_t q, kif_f (by omega)]; rfl
    · rw [kif_f q]
  · rw [if_neg h, if_neg h]
theorem sLayW_n {v w0 : Int → Int} {kite : Int} {i : Nat} {c : Int} (hc : v 0 ≤ c) : sLayW v w0 kite i c 0 = sLayW v w0 kite (i + 1) 0 0 := by
  funext j
  unfold sLayW
  by_cases h : 0 ≤ j ∧ j < 70
  · rw [if_pos h, if_pos h]
    by_cases q : sFld v (j % 10) (j / 10)
    · have q1 := q.1
      rw [kif_t q, kif_t q, kif_t (Or.inl (by omega)), kif_f (by omega)]
    · rw [kif_f q, kif_f q]
  · rw [if_neg h, if_neg h]
theorem sLayW_c {v w0 : Int → Int} {kite : Int} {i : Nat} {c r : Int} (hr : v 1 ≤ r) : sLayW v w0 kite i c r = sLayW v w0 kite i (c + 1) 0 := by
  funext j
  unfold sLayW
  by_cases h : 0 ≤ j ∧ j < 70
  · rw [if_pos h, if_pos h]
    by_cases q : sFld v (j % 10) (j / 10)
    · have q1 := q.1
      have q2 := q.2
      rw [kif_t q, kif_t q]
      by_cases z : j % 10 < c + 1
      · rw [kif_t (by omega), kif_t (by omega)]
      · rw [kif_f (by omega), kif_f (by omega)]
    · rw [kif_f q, kif_f q]
  · rw [if_neg h, if_neg h]
theorem sLayW_r {v w0 : Int → Int} {kite : Int} {i : Nat} {c r x : Int} (hv : v 0 ≤ 9 ∧ v 1 ≤ 7) (hf : sFld v c r) (hx : x = kb (sHas (sCuts (sPasses v i)) kite c r)) : ku (sLayW v w0 kite i c r) (10 * r + c) (sLayW v w0 kite i c r (10 * r + c) + x) = sLayW v w0 kite i c (r + 1) := by
  obtain ⟨⟨_, _⟩, ⟨_, _⟩⟩ := hf
  funext j
  unfold ku
  by_cases e : j = 10 * r + c
  · subst e
    rw [if_pos rfl]
    have e1 : (10 * r + c) % 10 = c := by omega
    have e2 : (10 * r + c) / 10 = r := by omega
    unfold sLayW
    rw [if_pos (by omega), if_pos (by omega), e1, e2, kif_t ⟨⟨by omega, by omega⟩, by omega, by omega⟩, kif_f (by omega), kif_t ⟨⟨by omega, by omega⟩, by omega, by omega⟩, kif_t (by omega), hx]
    rfl
  · rw [if_neg e]
    unfold sLayW
    by_cases h : 0 ≤ j ∧ j < 70
    · rw [if_pos h, if_pos h]
      by_cases q : sFld v (j % 10) (j / 10)
      · rw [kif_t q, kif_t q]
        by_cases z : j % 10 < c ∨ j % 10 = c ∧ j / 10 < r
        · rw [kif_t z, kif_t (by omega)]
        · rw [kif_f z, kif_f (by omega)]
      · rw [kif_f q, kif_f q]
    · rw [if_neg h, if_neg h]
/-- what laysHours leaves in shaded0 -/
noncomputable def sLaid (v w0 : Int → Int) (kite : Int) (n : Nat) : Int → Int := sLayW v w0 kite n 0 0
theorem P_X12_laysHours {G : Kg} {σ : Kmem} {n kite : Int} (p : wf (σ 1) ∧ σ 1 7 ≤ 20000 ∧ (0 ≤ n ∧ n ≤ 1000) ∧ rI kite) : Run G WM M_X12_laysHours 8 0 0 [vA G 0, vI n, vI kite] σ (fun x s => x = 0 ∧ s = kst (kst σ 1 (sKeep (σ 1) 3084)) 9 (sLaid (sKeep (σ 1) 3084) (σ 9) kite n.toNat)) := by
  obtain ⟨w, h7, hn, hk⟩ := p
  have wk := wf_keep (to := 3084) w (by omega)
  have k7 : sKeep (σ 1) 3084 7 = σ 1 7 := if_neg (by omega)
  have main : E_X12_laysHours_30 G n kite 0 (kst (kst σ 1 (sKeep (σ 1) 3084)) 9 (sLayW (sKeep (σ 1) 3084) (σ 9) kite 0 0 0)) (fun x s => x = 0 ∧ s = kst (kst σ 1 (sKeep (σ 1) 3084)) 9 (sLaid (sKeep (σ 1) 3084) (σ 9) kite n.toNat)) := by
    generalize hV : sKeep (σ 1) 3084 = V at *
    have wV := wf_h wk
    refine kloop (E := fun i z => E_X12_laysHours_30 G n kite i (kst (kst σ 1 z.1) 9 z.2) (fun x s => x = 0 ∧ s = kst (kst σ 1 V) 9 (sLaid V (σ 9) kite n.toNat))) (fun i => (sPasses V i, sLayW V (σ 9) kite i 0 0)) n.toNat (fun i hi ih => S_X12_laysHours_30 ?_)
    have ok := sPasses_ok wk i (by omega)
    refine ⟨by omega, by omega, fun q => Run.mono (P_X12_restores (by omega)) (fun r s z => ⟨rfl, ?_⟩), fun q => Run.mono (P_X12_cuts (by rw [kst_two (by omega)]; exact ok.1)) (fun r s z => ?_)⟩
    · rw [z.2, kst_two (by omega), kst_swap (by omega), show i = n.toNat by omega]
      have e : sRest (sPasses V n.toNat) 3084 = V := by
        rw [← hV]
        exact sRest_keep (by rw [← show i = n.toNat by omega, hV]; exact ok.2.2.2) (by omega)
      show kst (kst σ 1 (sRest (sPasses V n.toNat) 3084)) 9 _ = _
      rw [e]; rfl
    · rw [z.2, kst_two (by omega), kst_swap (by omega)]
      show E_X12_laysHours_43 G n kite i 0 (kst (kst σ 1 (sCuts (sPasses V i))) 9 (sLayW V (σ 9) kite i 0 0)) _
      have cu := sCuts_ok ok.1
      have c0 := cu.2 0 (by omega) (by omega)
      have c1 := cu.2 1 (by omega) (by omega)
      have c7 := cu.2 7 (by omega) (by omega)
      have p7 := ok.2.2.1
      have wc := wf_h cu.1
      have p0 := ok.2.1 0 (by omega) (by omega) (by omega)
      have p1 := ok.2.1 1 (by omega) (by omega) (by omega)
      have ih := ih (by omega)
      refine kloop (E := fun c z => E_X12_laysHours_43 G n kite i c (kst (kst σ 1 (sCuts (sPasses V i))) 9 z) (fun x s => x = 0 ∧ s = kst (kst σ 1 V) 9 (sLaid V (σ 9) kite n.toNat))) (fun c => sLayW V (σ 9) kite i c 0) (V 0).toNat (fun c hc jh => S_X12_laysHours_43 ?_)
      rw [kst_two (by omega)]
      refine ⟨by omega, by omega, fun q => ?_, fun q => ?_⟩
      · rw [kup_k, kst_two (by omega), kst_swap (by omega), sLayW_n (by omega), c7]
        exact ih
      · have jh := jh (by omega)
        refine kloop (E := fun r z => E_X12_laysHours_57 G n kite i c r (kst (kst σ 1 (sCuts (sPasses V i))) 9 z) (fun x s => x = 0 ∧ s = kst (kst σ 1 V) 9 (sLaid V (σ 9) kite n.toNat))) (fun r => sLayW V (σ 9) kite i c r) (V 1).toNat (fun r hr kh => S_X12_laysHours_57 ?_)
        rw [kst_two (by omega), kst_eq, kup_st, kup_st]
        have o := sOwn_r (v := sCuts (sPasses V i)) (c := c) (r := r) (h := sCuts (sPasses V i) 7 % 12) cu.1
        have st : ∀ x : Int, r < (V 1).toNat → x = kb (sHas (sCuts (sPasses V i)) kite c r) → E_X12_laysHours_57 G n kite i c ((r : Int) + 1) (kst (kst σ 1 (sCuts (sPasses V i))) 9 (ku (sLayW V (σ 9) kite i c r) (10 * r + c) (sLayW V (σ 9) kite i c r (10 * r + c) + x))) (fun x s => x = 0 ∧ s = kst (kst σ 1 V) 9 (sLaid V (σ 9) kite n.toNat)) := by
          intro x hr hx
          rw [sLayW_r (by omega) ⟨⟨by omega, by omega⟩, by omega, by omega⟩ hx]; exact kh hr
        refine ⟨by omega, by omega, fun q2 => ?_, fun q2 => ⟨by omega, ⟨cu.1, by omega, by omega, by omega, by omega⟩, by omega, by omega, fun h => ⟨by omega, st 0 (by omega) (kb_0 (fun z => z.1 h)).symm⟩, fun h => ⟨hk, fun h2 => ⟨by omega, st 1 (by omega) (kb_1 ⟨h, Or.inl h2⟩).symm⟩, fun h2 => ⟨fun h3 => ⟨by omega, st 0 (by omega) (kb_0 (fun z => z.2.elim h2 h3)).symm⟩, fun h3 => ⟨by omega, st 1 (by omega) (kb_1 ⟨h, Or.inr h3⟩).symm⟩⟩⟩⟩⟩
        rw [sLayW_c (by omega)]; exact jh
  refine S_X12_laysHours ?_
  have s0 : E_X12_laysHours_2 G n kite 0 (kst σ 9 (fun j => if 0 ≤ j ∧ j < ((0 : Nat) : Int) then 0 else σ 9 j)) (fun x s => x = 0 ∧ s = kst (kst σ 1 (sKeep (σ 1) 3084)) 9 (sLaid (sKeep (σ 1) 3084) (σ 9) kite n.toNat)) := by
    refine kloop (E := fun i z => E_X12_laysHours_2 G n kite i (kst σ 9 z) (fun x s => x = 0 ∧ s = kst (kst σ 1 (sKeep (σ 1) 3084)) 9 (sLaid (sKeep (σ 1) 3084) (σ 9) kite n.toNat))) (fun i => fun j => if 0 ≤ j ∧ j < (i : Int) then 0 else σ 9 j) 70 (fun i hi ih => S_X12_laysHours_2 ?_)
    refine ⟨by omega, fun q => Run.mono (P_X12_keeps (by omega)) (fun r s z => ?_), fun q => ⟨by omega, ?_⟩⟩
    · have e : kst (kst σ 9 (fun j => if 0 ≤ j ∧ j < (i : Int) then 0 else σ 9 j)) 1 (sKeep (σ 1) 3084) = kst (kst σ 1 (sKeep (σ 1) 3084)) 9 (sLayW (sKeep (σ 1) 3084) (σ 9) kite 0 0 0) := by
        rw [sLayW_0, show (i : Int) = 70 by omega]
        funext x k; unfold kst
        by_cases h1 : x = 1
        · rw [if_pos h1, if_neg (by omega), if_pos h1]
        · rw [if_neg h1]
          by_cases h9 : x = 9
          · rw [if_pos h9, if_pos h9]
          · rw [if_neg h9, if_neg h9, if_neg h1]
      rw [z.2, kst_ne (by omega), e]; exact main
    · rw [kup_st]
      have e : ku (fun j => if 0 ≤ j ∧ j < (i : Int) then 0 else σ 9 j) i 0 = fun j => if 0 ≤ j ∧ j < ((i + 1 : Nat) : Int) then 0 else σ 9 j := by
        funext j; unfold ku; dsimp only
        by_cases h : j = i
        · rw [if_pos h, if_pos (by omega)]
        · rw [if_neg h]
          by_cases h2 : 0 ≤ j ∧ j < (i : Int)
          · rw [if_pos h2, if_pos (by omega)]
          · rw [if_neg h2, if_neg (by omega)]
      rw [e]; exact ih (by omega)
  have e : (fun j => if 0 ≤ j ∧ j < ((0 : Nat) : Int) then 0 else σ 9 j) = σ 9 := by funext j; rw [if_neg (by omega)]
  rw [e, kst_id] at s0; exact s0
