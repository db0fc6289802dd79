theorem sLaid_fld {v w0 : Int → Int} {kite c r : Int} {n : Nat} (w : wf v) (hf : sFld v c r) : sLaid v w0 kite n (10 * r + c) = sLay v kite c r n := by
  have w1 := wf_h w
  have e1 : (10 * r + c) % 10 = c := by omega
  have e2 : (10 * r + c) / 10 = r := by omega
  unfold sLaid sLayW
  rw [if_pos (by omega), e1, e2, kif_t hf, kif_f (by omega)]
theorem O_leaseOf {G G' : Kg} {σ τ : Kmem} {l1 l2 l3 l4 : Int} (h : R σ τ) (r1 : rI l1) (r2 : rI l2) (r3 : rI l3) (r4 : rI l4) : Op G G' M_X11_leaseOf M_X12_leaseOf 4 9 [vA G 0, vI l1, vI l2, vI l3, vI l4] [vA G' 0, vI l1, vI l2, vI l3, vI l4] σ τ := by
  obtain ⟨w, k⟩ := R_w h
  have w1 := wf_h w
  have h7 := h.1.1.2.2
  have wk := wf_keep (to := 3084) w (by omega)
  have k7 : sKeep (τ 1) 3084 7 = τ 1 7 := keep_0 (by omega)
  by_cases c : sFld (τ 1) l1 l2 ∧ sKt (τ 1) l3 ∧ 0 ≤ l4 ∧ l4 ≤ 99
  · obtain ⟨c1, c2, c3⟩ := c
    have ff : sFld (sKeep (τ 1) 3084) l1 l2 := by
      show (0 ≤ l1 ∧ l1 < sKeep (τ 1) 3084 0) ∧ 0 ≤ l2 ∧ l2 < sKeep (τ 1) 3084 1
      rw [keep_0 (by omega), keep_0 (by omega)]; exact c1
    have sl := sLaid_fld (w0 := τ 9) (kite := l3) (n := l4.toNat) wk ff
    refine Op_pure (sLay (sKeep (τ 1) 3084) l3 l1 l2 l4.toNat) 0 h (by decide) (S_X11_leaseOf (v := τ 1) ?_) (S_X12_leaseOf ?_)
    · all_goals (repeat' (with_reducible first | assumption | intro _ | refine And.intro ?_ ?_))
      all_goals (first | omega | contradiction | rfl | exact fX.refl | exact fM.refl | exact kb_0 (by decide) | exact kb_1 rfl | trivial | skip)
      refine Run.mono (P_X0_copy (v := τ 1) isC_31 isC_5 ⟨by decide, w, k⟩) (fun r s e => ?_)
      obtain ⟨-, e1, e2, -⟩ := e
      have kk := kco_keep (to := 3084) w e2 (by omega)
      generalize hV : sKeep (τ 1) 3084 = V at *
      generalize hQ : (fun (r : Int) (s : Kmem) => r = sLay V l3 l1 l2 l4.toNat ∧ fX s (kup σ 0 0 0)) = Q
      refine kloopP (E := fun i (z : Int × Kmem) => E_X11_leaseOf_55 G l1 l2 l3 l4 z.1 i z.2 Q) (fun i z => z.1 = sLay V l3 l1 l2 i ∧ kco z.2 31 (sPasses V i) ∧ fX z.2 σ) l4.toNat (fun i z hi hI ih => S_X11_leaseOf_55 ⟨by omega, by omega, fun q => ?_, fun q => ?_⟩) (τ := (0, s)) ⟨rfl, kk, fX_c31 e1⟩
      · obtain ⟨i1, i2, i3⟩ := hI
        rw [← hQ]
        exact ⟨by rw [i1, show l4.toNat = i by omega], fX_st i3⟩
      · obtain ⟨i1, i2, i3⟩ := hI
        have ok := sPasses_ok wk i (by omega)
        have ih := ih (by omega)
        rw [sLay_s] at ih
        have eP : sPasses V (i + 1) = sPass (sPasses V i) := rfl
        rw [eP] at ih
        have p0 := ok.2.1 0 (by omega) (by omega) (by omega)
        have p1 := ok.2.1 1 (by omega) (by omega) (by omega)
        have p7 := ok.2.2.1
        generalize sPasses V i = U at *
        refine Run.mono (P_X0_loseCrossed (v := U) isC_31 ⟨ok.1, i2⟩) (fun r s2 e => ?_)
        obtain ⟨-, f1, k1, -, sD⟩ := e
        have okc := sCuts_ok ok.1
        have cv : ∀ j, (j < 34 ∨ 88 ≤ j) → sCuts U j = U j := fun j hj => sCuts_at ok.1 (fun k a b => by have := wf_h ok.1; omega)
        have kh := kco_hour (x := U 7 + 1) okc.1 k1
        have hs4 : s2 31 4 = U 7 := by rw [(kco_h k1).2.1, cv 7 (by omega)]
        have own := (skD_own (c := l1) (r := l2) okc.1 sD ⟨⟨c1.1.1, by rw [cv 0 (by omega), p0]; exact ff.1.2⟩, c1.2.1, by rw [cv 1 (by omega), p1]; exact ff.2.2⟩).2
        have o := sOwn_r (v := sCuts U) (c := l1) (r := l2) (h := U 7 % 12) okc.1
        have w2 := wf_h okc.1
        have fr : fX (kup s2 31 4 (U 7 + 1)) σ := (fX_of (A := fun x => 31 ≤ x ∧ x ≤ 63) (fun x y => by rw [kup_o (by omega), f1 x (by omega)]) (fun x q => by unfold scX; have := q.1; have := q.2; omega)).trans i3
        have hc7 : sCuts U 7 % 12 = U 7 % 12 := by rw [cv 7 (by omega)]
        rw [own, hs4]
        refine ⟨by omega, by constructor <;> omega, by omega, fun n1 => ih (z.1, _) ⟨?_, kh, fr⟩, fun n1 => ih (z.1 + 1, _) ⟨?_, kh, fr⟩⟩
        · rw [kb_0 (fun y => ?_)]
          · show z.1 = _; omega
          · unfold sHas at y; rw [hc7] at y
            rcases y.2 with y | y
            · omega
            · exact n1 y
        · rw [kb_1 ?_]
          · show z.1 + 1 = _; omega
          · unfold sHas; rw [hc7]; exact ⟨by omega, Or.inr n1⟩
    · all_goals (repeat' (with_reducible first | assumption | intro _ | refine And.intro ?_ ?_))
      all_goals (first | omega | contradiction | rfl | exact fX.refl | exact fM.refl | exact kb_0 (by decide) | exact kb_1 rfl | trivial | skip)
      all_goals (first | exact fM_st ((fM_kst (x := 9) (by omega)).trans (fM_keep (to := 3084) (by omega))) | (rw [kst_eq]; exact sl))
  · refine Op_pure (-1) 1 h (by decide) (S_X11_leaseOf (v := τ 1) ?_) (S_X12_leaseOf ?_)
    all_goals (repeat' (with_reducible first | assumption | intro _ | refine And.intro ?_ ?_))
    all_goals (first | omega | contradiction | rfl | exact fX.refl | exact fM.refl | exact kb_0 (by decide) | exact kb_1 rfl | trivial | skip)
theorem sPb_keep {v L : Int → Int} {to : Int} (h : 2 ≤ to) (n : Nat) : sPb (sKeep v to) L n = sPb v L n := by
  unfold sPb
  have e : (fun (k b : Int) => kif (sFld (sKeep v to) (k % 10) (k / 10) ∧ (b = -1 ∨ L b < L k)) k b) = fun k b => kif (sFld v (k % 10) (k / 10) ∧ (b = -1 ∨ L b < L k)) k b := by
    funext k b
    have : sFld (sKeep v to) (k % 10) (k / 10) = sFld v (k % 10) (k / 10) := by
      show ((0 ≤ k % 10 ∧ k % 10 < sKeep v to 0) ∧ 0 ≤ k / 10 ∧ k / 10 < sKeep v to 1) = _
      rw [keep_0 (by omega), keep_0 (by omega)]
    rw [this]
  rw [e]
theorem sPb_none {v L : Int → Int} (h : v 0 = 0) : ∀ n : Nat, sPb v L n = -1
  | 0 => rfl
  | n + 1 => by
    show kif (sFld v ((n : Int) % 10) ((n : Int) / 10) ∧ (sPb v L n = -1 ∨ L (sPb v L n) < L n)) (n : Int) (sPb v L n) = -1
    rw [kif_f (fun q => by have := q.1.1; omega)]
    exact sPb_none h n
theorem sPb_rr {v L : Int → Int} : ∀ n : Nat, -1 ≤ sPb v L n ∧ sPb v L n < n
  | 0 => by show -1 ≤ (-1 : Int) ∧ (-1 : Int) < 0; omega
  | n + 1 => by
    have := sPb_rr (v := v) (L := L) n
    show -1 ≤ kif (sFld v ((n : Int) % 10) ((n : Int) / 10) ∧ (sPb v L n = -1 ∨ L (sPb v L n) < L n)) (n : Int) (sPb v L n) ∧ kif (sFld v ((n : Int) % 10) ((n : Int) / 10) ∧ (sPb v L n = -1 ∨ L (sPb v L n) < L n)) (n : Int) (sPb v L n) < _
    by_cases q : sFld v ((n : Int) % 10) ((n : Int) / 10) ∧ (sPb v L n = -1 ∨ L (sPb v L n) < L n)
    · rw [kif_t q]; omega
    · rw [kif_f q]; omega
theorem sPb_in {v L : Int → Int} {j : Nat} : ∀ n : Nat, j < n → sFld v ((j : Int) % 10) ((j : Int) / 10) → sPb v L n ≠ -1
  | 0, h, _ => by omega
  | n + 1, h, hf => by
    show kif (sFld v ((n : Int) % 10) ((n : Int) / 10) ∧ (sPb v L n = -1 ∨ L (sPb v L n) < L n)) (n : Int) (sPb v L n) ≠ -1
    by_cases q : sFld v ((n : Int) % 10) ((n : Int) / 10) ∧ (sPb v L n = -1 ∨ L (sPb v L n) < L n)
    · rw [kif_t q]; omega
    · rw [kif_f q]
      by_cases e : j = n
      · subst e; intro z; exact q ⟨hf, Or.inl z⟩
      · exact sPb_in n (by omega) hf
theorem sPb_some {v L : Int → Int} {n : Nat} (w : wf v) (h0 : 0 < v 0) (hn : 0 < n) : sPb v L n ≠ -1 := by
  have w1 := wf_h w
  refine sPb_in (j := 0) n hn ?_
  show (0 ≤ ((0 : Nat) : Int) % 10 ∧ ((0 : Nat) : Int) % 10 < v 0) ∧ 0 ≤ ((0 : Nat) : Int) / 10 ∧ ((0 : Nat) : Int) / 10 < v 1
  omega
theorem plant_X {G : Kg} {σ τ : Kmem} {n : Int} {Q : Int → Kmem → Prop} (h : R σ τ) (hn : 1 ≤ n ∧ n ≤ 99) (h0 : 0 < τ 1 0) (hq : ∀ r s, fX s σ → s 82 2 = sPb (τ 1) (sLaid (sKeep (τ 1) 3084) (τ 9) (-1) n.toNat) 70 → s 82 3 = sLaid (sKeep (τ 1) 3084) (τ 9) (-1) n.toNat (sPb (τ 1) (sLaid (sKeep (τ 1) 3084) (τ 9) (-1) n.toNat) 70) → sPb (τ 1) (sLaid (sKeep (τ 1) 3084) (τ 9) (-1) n.toNat) 70 ≠ -1 → Q r s) :
    Run G WX M_X0_copy 1 0 0 [vA G 31, vA G 5] σ (fun r7 s8 => Run G WX M_X5_seekPlanting 4 0 0 [vA G 82, vI n] s8 Q) := by
  obtain ⟨w, k⟩ := R_w h
  have h7 := h.1.1.2.2
  have wk := wf_keep (to := 3084) w (by omega)
  have k7 : sKeep (τ 1) 3084 7 = τ 1 7 := keep_0 (by omega)
  have k0 : sKeep (τ 1) 3084 0 = τ 1 0 := keep_0 (by omega)
  refine Run.mono (P_X0_copy (v := τ 1) isC_31 isC_5 ⟨by decide, w, k⟩) (fun r s e => ?_)
  obtain ⟨-, e1, e2, -⟩ := e
  refine Run.mono (P_X5_seekPlanting (v := sKeep (τ 1) 3084) (L := sLaid (sKeep (τ 1) 3084) (τ 9) (-1) n.toNat) ⟨⟨wk, kco_keep w e2 (by omega)⟩, by omega, hn, by omega, fun c r hf => sLaid_fld wk hf⟩) (fun r2 s2 f => ?_)
  obtain ⟨-, f1, f2, f3, f4, f5⟩ := f
  rw [sPb_keep (by omega)] at f3 f4 f5
  have fr : fX s2 s := ⟨fun x a => f1 x (fun q => a (by unfold scX; omega)), f2 6 (by decide) (by decide)⟩
  exact hq r2 s2 (fr.trans (fX_c31 e1)) f3 f4 f5
theorem plant_M {G : Kg} {τ : Kmem} {n : Int} {Q : Int → Kmem → Prop} (w : wf (τ 1)) (h7 : τ 1 7 ≤ 9999) (hn : 1 ≤ n ∧ n ≤ 99) (hq : Q (sPb (τ 1) (sLaid (sKeep (τ 1) 3084) (τ 9) (-1) n.toNat) 70) (kst (kst τ 1 (sKeep (τ 1) 3084)) 9 (sLaid (sKeep (τ 1) 3084) (τ 9) (-1) n.toNat))) : Run G WM M_X12_plantOf 9 0 0 [vA G 0, vI n] τ Q :=
  Run.mono (P_X12_plantOf ⟨w, by omega, hn⟩) (fun x s e => by rw [e.1, e.2]; exact hq)
theorem plant_fM {τ : Kmem} {f : Int → Int} : fM (kst (kst τ 1 (sKeep (τ 1) 3084)) 9 f) τ := (fM_kst (x := 9) (by omega)).trans (fM_keep (to := 3084) (by omega))
theorem O_plant {G G' : Kg} {σ τ : Kmem} {l1 : Int} (h : R σ τ) (r1 : rI l1) : Op G G' M_X11_plant M_X12_plant 5 10 [vA G 0, vI l1] [vA G' 0, vI l1] σ τ := by
  obtain ⟨w, k⟩ := R_w h
  have w1 := wf_h w
  have h7 := h.1.1.2.2
  by_cases c : 1 ≤ l1 ∧ l1 ≤ 99
  · have pr := sPb_rr (v := τ 1) (L := sLaid (sKeep (τ 1) 3084) (τ 9) (-1) l1.toNat) 70
    have hM : Run G' WM M_X12_plant 10 0 0 [vA G' 0, vI l1] τ (fun r t => r = sPb (τ 1) (sLaid (sKeep (τ 1) 3084) (τ 9) (-1) l1.toNat) 70 ∧ fM t (kup τ 0 2 (kif (sPb (τ 1) (sLaid (sKeep (τ 1) 3084) (τ 9) (-1) l1.toNat) 70 = -1) 6 0))) := by
      refine S_X12_plant ?_
      all_goals (repeat' (with_reducible first | assumption | intro _ | refine And.intro ?_ ?_))
      all_goals (first | omega | contradiction | rfl | exact fX.refl | exact fM.refl | exact kb_0 (by decide) | exact kb_1 rfl | trivial | skip)
      exact plant_M w h7 c ⟨by constructor <;> omega, rfl, fM_st plant_fM⟩
    by_cases h0 : 0 < τ 1 0
    · refine Op_pure _ _ h st6_r (S_X11_plant (v := τ 1) ?_) hM
      all_goals (repeat' (with_reducible first | assumption | intro _ | refine And.intro ?_ ?_))
      all_goals (first | omega | contradiction | rfl | exact fX.refl | exact fM.refl | exact kb_0 (by decide) | exact kb_1 rfl | trivial | skip)
      exact plant_X h c h0 (fun r s f e2 e3 e4 => ⟨e2, by rw [kif_f e4]; exact fX_st f⟩)
    · have z : τ 1 0 = 0 := by omega
      rw [sPb_none z, kif_t rfl] at hM
      refine Op_pure (-1) 6 h (by decide) (S_X11_plant (v := τ 1) ?_) hM
      all_goals (repeat' (with_reducible first | assumption | intro _ | refine And.intro ?_ ?_))
      all_goals (first | omega | contradiction | rfl | exact fX.refl | exact fM.refl | exact kb_0 (by decide) | exact kb_1 rfl | trivial | skip)
  · refine Op_pure (-1) 1 h (by decide) (S_X11_plant (v := τ 1) ?_) (S_X12_plant ?_)
    all_goals (repeat' (with_reducible first | assumption | intro _ | refine And.intro ?_ ?_))
    all_goals (first | omega | contradiction | rfl | exact fX.refl | exact fM.refl | exact kb_0 (by decide) | exact kb_1 rfl | trivial | skip)
theorem O_planted {G G' : Kg} {σ τ : Kmem} {l1 : Int} (h : R σ τ) (r1 : rI l1) : Op G G' M_X11_planted M_X12_planted 5 10 [vA G 0, vI l1] [vA G' 0, vI l1] σ τ := by
  obtain ⟨w, k⟩ := R_w h
  have w1 := wf_h w
  have h7 := h.1.1.2.2
  by_cases c : 1 ≤ l1 ∧ l1 ≤ 99
  · have pr := sPb_rr (v := τ 1) (L := sLaid (sKeep (τ 1) 3084) (τ 9) (-1) l1.toNat) 70
    by_cases h0 : 0 < τ 1 0
    · have e4 : sPb (τ 1) (sLaid (sKeep (τ 1) 3084) (τ 9) (-1) l1.toNat) 70 ≠ -1 := sPb_some w h0 (by omega)
      refine Op_pure (sLaid (sKeep (τ 1) 3084) (τ 9) (-1) l1.toNat (sPb (τ 1) (sLaid (sKeep (τ 1) 3084) (τ 9) (-1) l1.toNat) 70)) 0 h (by decide) (S_X11_planted (v := τ 1) ?_) (S_X12_planted ?_)
      · all_goals (repeat' (with_reducible first | assumption | intro _ | refine And.intro ?_ ?_))
        all_goals (first | omega | contradiction | rfl | exact fX.refl | exact fM.refl | exact kb_0 (by decide) | exact kb_1 rfl | trivial | skip)
        exact plant_X h c h0 (fun r s f e2 e3 e4 => ⟨e3, fX_st f⟩)
      · all_goals (repeat' (with_reducible first | assumption | intro _ | refine And.intro ?_ ?_))
        all_goals (first | omega | contradiction | rfl | exact fX.refl | exact fM.refl | exact kb_0 (by decide) | exact kb_1 rfl | trivial | skip)
        exact plant_M w h7 c ⟨by constructor <;> omega, fun n1 => ⟨by omega, by rw [kst_eq], fM_st plant_fM⟩, fun n1 => absurd n1 e4⟩
    · have z : τ 1 0 = 0 := by omega
      refine Op_pure (-1) 6 h (by decide) (S_X11_planted (v := τ 1) ?_) (S_X12_planted ?_)
      · all_goals (repeat' (with_reducible first | assumption | intro _ | refine And.intro ?_ ?_))
        all_goals (first | omega | contradiction | rfl | exact fX.refl | exact fM.refl | exact kb_0 (by decide) | exact kb_1 rfl | trivial | skip)
      · all_goals (repeat' (with_reducible first | assumption | intro _ | refine And.intro ?_ ?_))
        all_goals (first | omega | contradiction | rfl | exact fX.refl | exact fM.refl | exact kb_0 (by decide) | exact kb_1 rfl | trivial | skip)
        exact plant_M w h7 c ⟨by constructor <;> omega, fun n1 => absurd (sPb_none z 70) n1, fun n1 => ⟨rfl, fM_st plant_fM⟩⟩
  · refine Op_pure (-1) 1 h (by decide) (S_X11_planted (v := τ 1) ?_) (S_X12_planted ?_)
    all_goals (repeat' (with_reducible first | assumption | intro _ | refine And.intro ?_ ?_))
    all_goals (first | omega | contradiction | rfl | exact fX.refl | exact fM.refl | exact kb_0 (by decide) | exact kb_1 rfl | trivial | skip)
