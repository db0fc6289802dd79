/-! what lies behind an array's end is of no account -/
theorem kWL_gh {G : Kg} {τ τ' : Kmem} (h1 : ∀ x, x ≠ 1 → τ' x = τ x) (h2 : ∀ j, 0 ≤ j → j < 3598 → τ' 1 j = τ 1 j) {H : Heap} (h : va_P G.2.2.1 vwCl (kWL G WM τ 21) H) : va_P G.2.2.1 vwCl (kWL G WM τ' 21) H := by
  intro k q hk
  obtain ⟨hl, rfl⟩ := kWL_of hk
  have hq := h k (G.2.1 + k, kCell G WM τ k) (kWL_at hl)
  by_cases e : k = 1
  · subst e
    have c1 : kCell G WM τ 1 = .inl (G.2.2.2.1 20, (3598, .inl (fun j => Int32.ofInt (τ 1 j)))) := rfl
    have c2 : kCell G WM τ' 1 = .inl (G.2.2.2.1 20, (3598, .inl (fun j => Int32.ofInt (τ' 1 j)))) := rfl
    rw [c1] at hq
    rw [c2]
    unfold va_at at hq ⊢
    dsimp only at hq ⊢
    refine hq.trans (congrArg some ?_)
    rw [vp_cell_i, vp_cell_i]
    unfold arrV
    have e : (fun (j : Fin 3598) => Value.int (Int32.ofInt (τ 1 (j.val : Nat)))) = fun (j : Fin 3598) => Value.int (Int32.ofInt (τ' 1 (j.val : Nat))) := by
      funext j
      rw [h2 (j.val : Nat) (by omega) (by have := j.isLt; omega)]
    exact congrArg (fun f => ({ cls := G.2.2.2.1 20, slots := Array.ofFn (n := 3598) f, vm := .none } : Cell)) e
  · have c : kCell G WM τ' k = kCell G WM τ k := by
      unfold kCell kObj kArC
      rw [h1 (k : Int) (by omega)]
      rfl
    rw [c]; exact hq
theorem Run_gh {G : Kg} {M : Km} {d mc ms : Nat} {as : List Value} {τ τ' : Kmem} {Q : Int → Kmem → Prop} (h1 : ∀ x, x ≠ 1 → τ' x = τ x) (h2 : ∀ j, 0 ≤ j → j < 3598 → τ' 1 j = τ 1 j) (h : Run G WM M d mc ms as τ' Q) : Run G WM M d mc ms as τ Q := by
  unfold Run Met MetFree at h ⊢
  intro p e a1 a2 a3 s m args below a4 a5 a6 a7
  have pc : ∀ v U, kPc G WM as τ v U → kPc G WM as τ' v U := fun v U q => ⟨q.1, kWL_gh h1 h2 q.2.1, q.2.2.1, q.2.2.2.1, q.2.2.2.2⟩
  exact h p e a1 a2 a3 s m args below a4 a5 (pc _ _ a6) a7
/-- the names of the class's county, laid behind the reference's numbers -/
def gv (σ : Kmem) (v : Int → Int) : Int → Int := fun j => if 4000 ≤ j ∧ j < 4014 then σ (5 + 6 + (j - 4000)) 0 else v j
theorem gv_cm {σ : Kmem} {v : Int → Int} (w : wf v) (k : kco σ 5 v) : kcm σ 5 (gv σ v) := by
  refine kcm_of (kco_ext w (fun j a b => if_neg (by omega)) k) (fun i a b => ?_)
  unfold gv
  rw [if_pos (by omega), show (4000 : Int) + i - 4000 = i by omega]
theorem Op_gh {G G' : Kg} {M M' : Km} {d d' : Nat} {as as' : List Value} {σ τ : Kmem} (h : R σ τ) (H : ∀ τ', R σ τ' → kcm σ 5 (τ' 1) → Op G G' M M' d d' as as' σ τ') : Op G G' M M' d d' as as' σ τ := by
  obtain ⟨w, k⟩ := R_w h
  have e1 : ∀ j, j < 3598 → gv σ (τ 1) j = τ 1 j := fun j hj => if_neg (by omega)
  obtain ⟨Q, Q', hx, hm, hq⟩ := H (kst τ 1 (gv σ (τ 1))) (R_fM h (fM_kst1 (fun j a b => e1 j (by omega)))) (by rw [kst_eq]; exact gv_cm w k)
  exact ⟨Q, Q', hx, Run_gh (fun x q => kst_ne q) (fun j a b => by rw [kst_eq]; exact e1 j b) hm, hq⟩
theorem cm_nm {s σ : Kmem} {u v : Int → Int} (a : kcm σ 5 v) (b : kcm s 5 u) (f : kfar u v) : ∀ k, 0 ≤ k → k < 14 → s (11 + k) 0 = σ (11 + k) 0 := fun k p q => by
  have x := a.1.2 k p q
  have y := b.1.2 k p q
  have z := f (4000 + k) (Or.inr (by omega))
  rw [show (11 : Int) + k = 5 + 6 + k by omega, x, y, z]
theorem O_walk {G G' : Kg} {σ τ : Kmem} {l1 l2 : Int} (h : R σ τ) (r1 : rI l1) (r2 : rI l2) : Op G G' M_X11_walk M_X12_walk 3 3 [vA G 0, vI l1, vI l2] [vA G' 0, vI l1, vI l2] σ τ := by
  refine Op_gh h (fun τ h kc => ?_)
  obtain ⟨w, k⟩ := R_w h
  have w1 := wf_h w
  have h7 := h.1.1.2.2
  by_cases c : sKt (τ 1) l1 ∧ 0 ≤ l2 ∧ l2 ≤ 4
  · obtain ⟨c1, c2⟩ := c
    have c1' := c1.1
    have c1'' := c1.2
    by_cases m : sMay (τ 1) l1 l2
    · have ok := sWalk_ok w c1 m
      refine ⟨_, _, S_X11_walk (v := τ 1) (Q := fun r s => r = 10 * sWalk (τ 1) l1 l2 (34 + 9 * l1 + 1) + sWalk (τ 1) l1 l2 (34 + 9 * l1) ∧ ∃ u, s = kup u 0 0 0 ∧ kfm (ctyC 5) u σ ∧ kcm u 5 (sWalk (τ 1) l1 l2)) ?_, S_X12_walk (Q := fun r t => r = 10 * sWalk (τ 1) l1 l2 (34 + 9 * l1 + 1) + sWalk (τ 1) l1 l2 (34 + 9 * l1) ∧ t = kup (kst τ 1 (sWalk (τ 1) l1 l2)) 0 2 0) ?_, fun r s r' t x y => ?_⟩
      · all_goals (repeat' (with_reducible first | assumption | intro _ | refine And.intro ?_ ?_))
        all_goals (first | omega | contradiction | rfl | exact fX.refl | exact fM.refl | exact kb_0 (by decide) | exact kb_1 rfl | trivial | skip)
        refine Run.mono (N_X0_stepHand (v := τ 1) isC_5 ⟨w, kc, c1, m, by omega, by omega⟩) (fun r s e => ?_)
        obtain ⟨-, e1, e2⟩ := e
        have K := (e2.2.2.1 l1 c1.1 (by rw [ok.2.1 2 (by omega) (by omega)]; exact c1.2)).1
        rw [K.1, K.2.1]
        exact ⟨by omega, by omega, by omega, s, rfl, e1, e2⟩
      · rw [kif_t m]
        rw [kst_eq, Int.add_zero]
        all_goals (repeat' (with_reducible first | assumption | intro _ | refine And.intro ?_ ?_))
        all_goals (first | omega | contradiction | rfl | exact fX.refl | exact fM.refl | exact kb_0 (by decide) | exact kb_1 rfl | trivial | skip)
      · obtain ⟨x1, u, rfl, u1, u2⟩ := x
        refine ⟨by rw [x1, y.1], ?_⟩
        rw [y.2]
        refine R_st (R_cty h (fun z a b => u1 z b) (by rw [u1 82 (by intro z; have := z.2; omega)]) (cm_nm kc u2 ok.2.2) ok.1 (by rw [ok.2.1 7 (by omega) (by omega)]; exact h7) u2.k (fun j a b => ok.2.2 j (Or.inr a)) ⟨ok.2.1 8 (by omega) (by omega), ok.2.1 2 (by omega) (by omega), ok.2.1 3 (by omega) (by omega)⟩) (by decide)
    · refine Op_pure (-1) 7 h (by decide) (S_X11_walk (v := τ 1) ?_) (S_X12_walk ?_)
      · all_goals (repeat' (with_reducible first | assumption | intro _ | refine And.intro ?_ ?_))
        all_goals (first | omega | contradiction | rfl | exact fX.refl | exact fM.refl | exact kb_0 (by decide) | exact kb_1 rfl | trivial | skip)
      · rw [kif_f m, kst_id]
        all_goals (repeat' (with_reducible first | assumption | intro _ | refine And.intro ?_ ?_))
        all_goals (first | omega | contradiction | rfl | exact fX.refl | exact fM.refl | exact kb_0 (by decide) | exact kb_1 rfl | trivial | skip)
  · refine Op_pure (-1) 1 h (by decide) (S_X11_walk (v := τ 1) ?_) (S_X12_walk ?_)
    all_goals (repeat' (with_reducible first | assumption | intro _ | refine And.intro ?_ ?_))
    all_goals (first | omega | contradiction | rfl | exact fX.refl | exact fM.refl | exact kb_0 (by decide) | exact kb_1 rfl | trivial | skip)
theorem O_hour {G G' : Kg} {σ τ : Kmem} {l1 : Int} (h : R σ τ) (r1 : rI l1) : Op G G' M_X11_hour M_X12_hour 5 9 [vA G 0, vI l1] [vA G' 0, vI l1] σ τ := by
  refine Op_gh h (fun τ h kc => ?_)
  obtain ⟨w, k⟩ := R_w h
  have w1 := wf_h w
  have h7 := h.1.1.2.2
  have k7 := (kco_h k).2.1
  by_cases c : 1 ≤ l1 ∧ l1 ≤ 99
  · by_cases d : τ 1 7 + l1 ≤ 9999
    · have ok := sHours_ok w l1.toNat (by omega)
      refine ⟨_, _, S_X11_hour (Q := fun r s => r = sHSet (τ 1) l1.toNat ∧ ∃ u, s = kup u 0 0 0 ∧ kfm (ctyA 5) u σ ∧ kcm u 5 (sHours (τ 1) l1.toNat)) ?_, S_X12_hour (Q := fun r t => r = sHSet (τ 1) l1.toNat ∧ t = kup (kst τ 1 (sHours (τ 1) l1.toNat)) 0 2 0) ?_, fun r s r' t x y => ?_⟩
      · rw [k7]
        all_goals (repeat' (with_reducible first | assumption | intro _ | refine And.intro ?_ ?_))
        all_goals (first | omega | contradiction | rfl | exact fX.refl | exact fM.refl | exact kb_0 (by decide) | exact kb_1 rfl | trivial | skip)
        refine Run.mono (N_X0_goBy (v := τ 1) isC_5 ⟨w, kc, by omega, by omega, by omega⟩) (fun r s e => ⟨e.1, s, rfl, e.2⟩)
      · all_goals (repeat' (with_reducible first | assumption | intro _ | refine And.intro ?_ ?_))
        all_goals (first | omega | contradiction | rfl | exact fX.refl | exact fM.refl | exact kb_0 (by decide) | exact kb_1 rfl | trivial | skip)
        generalize hQ : (fun (r : Int) (t : Kmem) => r = sHSet (τ 1) l1.toNat ∧ t = kup (kst τ 1 (sHours (τ 1) l1.toNat)) 0 2 0) = Q
        refine kloopP (E := fun i (z : Int × Kmem) => E_X12_hour_43 G' l1 z.1 i z.2 Q) (fun i z => z.1 = sHSet (τ 1) i ∧ z.2 = kst τ 1 (sHours (τ 1) i)) l1.toNat (fun i z hi hI ih => S_X12_hour_43 ⟨by omega, r1, fun q => ?_, fun q => ?_⟩) (τ := (0, τ)) ⟨rfl, by show τ = kst τ 1 (τ 1); exact kst_id.symm⟩
        · obtain ⟨i1, i2⟩ := hI
          rw [← hQ, i1, i2, show l1.toNat = i by omega]; exact ⟨rfl, rfl⟩
        · obtain ⟨i1, i2⟩ := hI
          have oki := sHours_ok w i (by omega)
          rw [i2, kst_eq, kst_kst]
          refine ⟨oki.1, ih (by omega) (kor z.1 (sDooms (sHours (τ 1) i) : Int), _) ⟨?_, rfl⟩⟩
          show kor z.1 _ = _
          rw [i1]; rfl
      · obtain ⟨x1, u, rfl, u1, u2⟩ := x
        refine ⟨by rw [x1, y.1], ?_⟩
        rw [y.2]
        refine R_st (R_cty h (fun z a b => u1 z (fun q => ?_)) (by rw [u1 82 (by intro z; rcases z with z | z; have := z.2; omega; have := z.2; omega)]) (cm_nm kc u2 ok.2.2.2) ok.1 (by rw [ok.2.2.1]; omega) u2.k (fun j a b => ok.2.2.2 j (Or.inr a)) ⟨ok.2.1 8 (by omega) (by omega) (by omega), ok.2.1 2 (by omega) (by omega) (by omega), ok.2.1 3 (by omega) (by omega) (by omega)⟩) (by decide)
        rcases q with q | q
        · exact b q
        · exact a (by unfold scX; omega)
    · refine Op_pure (-1) 4 h (by decide) (S_X11_hour ?_) (S_X12_hour ?_)
      · rw [k7]
        all_goals (repeat' (with_reducible first | assumption | intro _ | refine And.intro ?_ ?_))
        all_goals (first | omega | contradiction | rfl | exact fX.refl | exact fM.refl | exact kb_0 (by decide) | exact kb_1 rfl | trivial | skip)
      · all_goals (repeat' (with_reducible first | assumption | intro _ | refine And.intro ?_ ?_))
        all_goals (first | omega | contradiction | rfl | exact fX.refl | exact fM.refl | exact kb_0 (by decide) | exact kb_1 rfl | trivial | skip)
  · refine Op_pure (-1) 1 h (by decide) (S_X11_hour ?_) (S_X12_hour ?_)
    · rw [k7]
      all_goals (repeat' (with_reducible first | assumption | intro _ | refine And.intro ?_ ?_))
      all_goals (first | omega | contradiction | rfl | exact fX.refl | exact fM.refl | exact kb_0 (by decide) | exact kb_1 rfl | trivial | skip)
    · all_goals (repeat' (with_reducible first | assumption | intro _ | refine And.intro ?_ ?_))
      all_goals (first | omega | contradiction | rfl | exact fX.refl | exact fM.refl | exact kb_0 (by decide) | exact kb_1 rfl | trivial | skip)
/-- to stay is always a way to fly -/
theorem sFly_0 {kite c r : Int} : ∀ (m : Nat) (v : Int → Int) (its : Int), wf v → sKt v kite → 0 ≤ its → v 7 + m ≤ 90000 → 0 ≤ sFly kite c r m 0 v its
  | 0, _, _, _, _, h, _ => h
  | m + 1, v, its, w, hk, h, h7 => by
    have w1 := wf_h w
    have wk := w.2.2.1 kite hk.1 hk.2
    have z : (0 : Int) / 5 ^ m = 0 := Int.zero_ediv _
    have z2 : (0 : Int) % 5 ^ m = 0 := Int.zero_emod _
    have may : sMay v kite 0 := by
      show (0 ≤ v (34 + 9 * kite) + sStepC 0 ∧ v (34 + 9 * kite) + sStepC 0 < v 0) ∧ 0 ≤ v (34 + 9 * kite + 1) + sStepR 0 ∧ v (34 + 9 * kite + 1) + sStepR 0 < v 1
      have e1 : sStepC 0 = 0 := by decide
      have e2 : sStepR 0 = 0 := by decide
      rw [e1, e2]; omega
    have ok := sWalk_ok w hk may
    have o7 := ok.2.1 7 (by omega) (by omega)
    have o2 := ok.2.1 2 (by omega) (by omega)
    have ps := wf_pass ok.1 (by omega)
    show 0 ≤ kif (sMay v kite (0 / 5 ^ m)) (sFly kite c r m (0 % 5 ^ m) (sPass (sWalk v kite (0 / 5 ^ m))) (its + kb (sOwn (sCuts (sWalk v kite (0 / 5 ^ m))) c r (v 7 % 12) = kite))) (-1)
    rw [z, z2, kif_t may]
    refine sFly_0 m _ _ ps.1 ?_ ?_ ?_
    · show 0 ≤ kite ∧ kite < sPass (sWalk v kite 0) 2
      rw [ps.2.1 2 (by omega) (by omega) (by omega), o2]; exact hk
    · rcases kb_01 (sOwn (sCuts (sWalk v kite 0)) c r (v 7 % 12) = kite) with e | e <;> rw [e] <;> omega
    · rw [ps.2.2, o7]; omega
theorem sFlyBest_0 {v : Int → Int} {kite c r : Int} {n : Nat} (w : wf v) (hk : sKt v kite) (h7 : v 7 + n ≤ 90000) : 0 ≤ (sFlyBest v kite c r n (5 ^ n)).1 := by
  have z := sFly_0 (c := c) (r := r) n v 0 w hk (by omega) h7
  have q : ∀ N : Nat, 0 < N → 0 ≤ (sFlyBest v kite c r n N).1 := by
    intro N
    induction N with
    | zero => intro h; omega
    | succ N ih =>
      intro _
      show 0 ≤ (kif ((sFlyBest v kite c r n N).1 < sFly kite c r n N v 0) (sFly kite c r n N v 0, (N : Int)) (sFlyBest v kite c r n N)).1
      by_cases e : N = 0
      · subst e
        have : (sFlyBest v kite c r n 0).1 = -1 := rfl
        have z' : 0 ≤ sFly kite c r n ((0 : Nat) : Int) v 0 := z
        rw [kif_t (by omega)]; exact z'
      · have i := ih (by omega)
        by_cases y : (sFlyBest v kite c r n N).1 < sFly kite c r n N v 0
        · rw [kif_t y]; show 0 ≤ sFly kite c r n N v 0; omega
        · rw [kif_f y]; exact i
  exact q _ (Nat.pow_pos (by decide))
theorem O_fly {G G' : Kg} {σ τ : Kmem} {l1 l2 l3 l4 : Int} (h : R σ τ) (r1 : rI l1) (r2 : rI l2) (r3 : rI l3) (r4 : rI l4) : Op G G' M_X11_fly M_X12_fly 22 9 [vA G 0, vI l1, vI l2, vI l3, vI l4] [vA G' 0, vI l1, vI l2, vI l3, vI l4] σ τ := by
  obtain ⟨w, k⟩ := R_w h
  have w1 := wf_h w
  have h7 := h.1.1.2.2
  have wk := wf_keep (to := 3084) w (by omega)
  have e0 : sKeep (τ 1) 3084 0 = τ 1 0 := keep_0 (by omega)
  have e1 : sKeep (τ 1) 3084 1 = τ 1 1 := keep_0 (by omega)
  have e2 : sKeep (τ 1) 3084 2 = τ 1 2 := keep_0 (by omega)
  have e7 : sKeep (τ 1) 3084 7 = τ 1 7 := keep_0 (by omega)
  by_cases c : sKt (τ 1) l1 ∧ sFld (τ 1) l2 l3 ∧ 1 ≤ l4 ∧ l4 ≤ 5
  · obtain ⟨c1, c2, c3⟩ := c
    have ck : sKt (sKeep (τ 1) 3084) l1 := by show 0 ≤ l1 ∧ l1 < sKeep (τ 1) 3084 2; rw [e2]; exact c1
    have cf : sFld (sKeep (τ 1) 3084) l2 l3 := by show (0 ≤ l2 ∧ l2 < sKeep (τ 1) 3084 0) ∧ 0 ≤ l3 ∧ l3 < sKeep (τ 1) 3084 1; rw [e0, e1]; exact c2
    have b0 := sFlyBest_0 (c := l2) (r := l3) (n := l4.toNat) wk ck (by omega)
    generalize hB : sFlyBest (sKeep (τ 1) 3084) l1 l2 l3 l4.toNat (5 ^ l4.toNat) = B at *
    refine ⟨_, _, S_X11_fly (v := τ 1) (Q := fun r s => r = B.1 ∧ ∃ u, s = kup u 0 0 0 ∧ (∀ x, ¬ scX x → x ≠ 84 → u x = σ x) ∧ u 82 6 = l4 ∧ sDig (u 84) l4.toNat B.2) ?_, Run.mono (P_X12_fly (kite := l1) (c := l2) (r := l3) (n := l4) ⟨w, by omega, ⟨r1, r2⟩, r3, r4⟩) (fun r t e => e.2 ⟨c1, c2, c3⟩), fun r s r' t x y => ?_⟩
    · all_goals (repeat' (with_reducible first | assumption | intro _ | refine And.intro ?_ ?_))
      all_goals (first | omega | contradiction | rfl | exact fX.refl | exact fM.refl | exact kb_0 (by decide) | exact kb_1 rfl | trivial | skip)
      refine Run.mono (P_X0_copy (v := τ 1) isC_31 isC_5 ⟨by decide, w, k⟩) (fun r s e => ?_)
      obtain ⟨-, f1, f2, -⟩ := e
      refine Run.mono (P_X5_seekFlight (v := sKeep (τ 1) 3084) ⟨⟨wk, kco_keep w f2 (by omega)⟩, ck, cf, c3, by omega⟩) (fun r2 s2 g => ?_)
      obtain ⟨-, g1, g2, g3, g4⟩ := g
      rw [hB] at g3 g4
      refine ⟨g3, s2, rfl, fun x a b => ?_, g2, g4 b0⟩
      rw [g1 x (fun q => a (by unfold scX; omega))]
      exact (fX_c31 f1).1 x a
    · obtain ⟨x1, u, rfl, u1, u2, u3⟩ := x
      obtain ⟨y1, y2⟩ := y
      rw [hB] at y1 y2
      refine ⟨by rw [x1, y1], ?_⟩
      rw [y2]
      refine R_st ?_ (by decide)
      have ff : ∀ x, ¬ scX x → x ≠ 84 → u x = σ x := u1
      obtain ⟨h1, h2, h3, h4, h5, h6, h7', h8, h9, h10⟩ := h
      have t0 : ∀ j, j ≠ 26 → (kst (kup (kst τ 1 (sKeep (τ 1) 3084)) 0 26 l4) 10 (sFlown (τ 10) B.2 l4.toNat)) 0 j = τ 0 j := fun j hj => by rw [kst_ne (by omega), kup_j hj, kst_ne (by omega)]
      have t1 : ∀ j, j < 3084 → (kst (kup (kst τ 1 (sKeep (τ 1) 3084)) 0 26 l4) 10 (sFlown (τ 10) B.2 l4.toNat)) 1 j = τ 1 j := fun j hj => by rw [kst_ne (by omega), kup_o (by omega), kst_eq]; exact keep_0 hj
      have tx : ∀ x, x ≠ 0 → x ≠ 1 → x ≠ 10 → (kst (kup (kst τ 1 (sKeep (τ 1) 3084)) 0 26 l4) 10 (sFlown (τ 10) B.2 l4.toNat)) x = τ x := fun x a b d => by rw [kst_ne d, kup_o a, kst_ne b]
      have s0 := ff 0 (by unfold scX; omega) (by omega)
      refine ⟨kCt h1 (fun x a b => ff x (by unfold scX; omega) (by omega)) (fun x a b => ff x (by unfold scX; omega) (by omega)) (fun j _ _ => t1 j (by omega)) (fun j _ _ => by rw [tx 2 (by omega) (by omega) (by omega)]), kMks h2 (by rw [s0]) (t0 41 (by omega)) (fun x a => ff x (by unfold scX; omega) (by omega)) (fun j _ _ => t1 j (by omega)) (fun j _ _ => by rw [tx 2 (by omega) (by omega) (by omega)]), kSt h3 (by rw [s0]; exact ⟨rfl, rfl, rfl⟩) ⟨t0 2 (by omega), t0 3 (by omega), t0 4 (by omega)⟩, kTp h4 (by rw [s0]; exact ⟨rfl, ff 2 (by unfold scX; omega) (by omega)⟩) ⟨t0 10 (by omega), tx 6 (by omega) (by omega) (by omega), tx 7 (by omega) (by omega) (by omega)⟩, kFa h5 (ff 3 (by unfold scX; omega) (by omega)) ⟨t0 16 (by omega), t0 17 (by omega)⟩, kTr h6 (fun x a b => ff x (by unfold scX; omega) (by omega)) ⟨tx 3 (by omega) (by omega) (by omega), tx 4 (by omega) (by omega) (by omega), tx 5 (by omega) (by omega) (by omega)⟩, ⟨?_, fun i a b => ?_⟩, kLv h8 (ff 78 (by unfold scX; omega) (by omega)) ⟨t0 40 (by omega), tx 20 (by omega) (by omega) (by omega)⟩, ?_, ?_⟩
      · rw [kst_ne (by omega), kup_at]; omega
      · rw [kst_ne (by omega), kup_at] at b
        rw [kst_eq]
        have := u3 i.toNat (by omega)
        rw [show ((i.toNat : Nat) : Int) = i by omega] at this
        rw [this]
        exact (if_pos (by omega)).symm
      · unfold nmR; rw [tx 2 (by omega) (by omega) (by omega)]; exact h9
      · rw [tx 18 (by omega) (by omega) (by omega)]; exact h10
  · have c' : ¬ (sKt (τ 1) l1 ∧ sFld (τ 1) l2 l3 ∧ 1 ≤ l4 ∧ l4 ≤ 5) := c
    refine Op_pure (-1) 1 h (by decide) (S_X11_fly (v := τ 1) ?_) (Run.mono (P_X12_fly (kite := l1) (c := l2) (r := l3) (n := l4) ⟨w, by omega, ⟨r1, r2⟩, r3, r4⟩) (fun r t e => ?_))
    · all_goals (repeat' (with_reducible first | assumption | intro _ | refine And.intro ?_ ?_))
      all_goals (first | omega | contradiction | rfl | exact fX.refl | exact fM.refl | exact kb_0 (by decide) | exact kb_1 rfl | trivial | skip)
    · have := e.1 c'
      rw [this.1, this.2]; exact ⟨rfl, fM.refl⟩
