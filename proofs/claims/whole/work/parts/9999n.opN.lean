theorem O_reap {G G' : Kg} {σ τ : Kmem} {l1 : Int} (h : R σ τ) (r1 : rI l1) : Op G G' M_X11_reap M_X12_reap 5 7 [vA G 0, vI l1] [vA G' 0, vI l1] σ τ := by
  obtain ⟨w, k⟩ := R_w h
  have w1 := wf_h w
  have h7 := h.1.1.2.2
  have hr : sHr (τ 1 7 % 12) := by constructor <;> omega
  by_cases c : 0 ≤ l1 ∧ l1 < τ 1 3
  · have wc := w.2.2.2.1 l1 c.1 c.2
    have c1 := c.1
    have c2 := c.2
    have kx : kIsX (5 + 12 + l1) 2 := kIsX_crop isC_5 ⟨by omega, by omega⟩
    have o := sOwn_r (v := τ 1) (c := τ 1 (88 + 4 * l1)) (r := τ 1 (88 + 4 * l1 + 1)) (h := τ 1 7 % 12) w
    by_cases rp : τ 1 (88 + 4 * l1 + 2) ≤ τ 1 (88 + 4 * l1 + 3)
    · have look : ∀ (Q : Int → Kmem → Prop), (∀ s9, fX s9 σ → kco s9 5 (τ 1) → (∀ x, 5 ≤ x → x < 31 → s9 x = σ x) → s9 63 ((s9 (5 + 12 + l1) 2 * 9) + s9 (5 + 12 + l1) 1) = sOwn (τ 1) (τ 1 (88 + 4 * l1)) (τ 1 (88 + 4 * l1 + 1)) (τ 1 7 % 12) → s9 (5 + 12 + l1) 1 = τ 1 (88 + 4 * l1) → s9 (5 + 12 + l1) 2 = τ 1 (88 + 4 * l1 + 1) → s9 (5 + 12 + l1) 3 = τ 1 (88 + 4 * l1 + 2) → Q 0 s9) → Run G WX M_X11_lookNow 4 0 0 [vA G 0] σ Q := by
        intro Q hq
        refine Run.mono (P_X11_lookNow (v := τ 1) ⟨w, k⟩) (fun r s e => ?_)
        obtain ⟨rfl, e1, e2, e3, e4⟩ := e
        have kc := e2.2.2.2.1 l1 c1 c2
        have own := (skD_own (c := τ 1 (88 + 4 * l1)) (r := τ 1 (88 + 4 * l1 + 1)) w e4 ⟨⟨by omega, by omega⟩, by omega, by omega⟩).2
        exact hq s (fX_sky e1) e2 (fun x a b => e1 x (fun q => by have := q.1; omega)) (by rw [kc.1.1, kc.1.2]; exact own) kc.1.1 kc.1.2 kc.2.1
      by_cases ow : sOwn (τ 1) (τ 1 (88 + 4 * l1)) (τ 1 (88 + 4 * l1 + 1)) (τ 1 7 % 12) = -1
      · refine Op_pure (-1) 6 h (by decide) (S_X11_reap (v := τ 1) ⟨⟨w, k, r1⟩, fun _ => ⟨by omega, Run.mono (P_X2_isRipe (v := τ 1) kx ⟨w, k, c1, c2⟩) (fun r s e => ?_)⟩, fun n => absurd c n⟩) (S_X12_reap ?_)
        · rw [e.1, e.2, kb_1 rp]
          refine ⟨by decide, fun _ => look _ (fun s9 f1 f2 f3 f4 f5 f6 f7 => ?_), fun n => absurd n (by decide)⟩
          rw [f4, f5, f6, ow]
          exact ⟨by omega, by decide, fun n => absurd rfl n, fun _ => ⟨rfl, fX_st f1⟩⟩
        · rw [ow]
          exact ⟨⟨r1, w⟩, fun _ => ⟨⟨w, c1, c2⟩, fun _ => ⟨by omega, by omega, by omega, ⟨w, by omega, by omega, hr⟩, by decide, fun n => absurd rfl n, fun _ => ⟨rfl, fM.refl⟩⟩, fun n => absurd rp n⟩, fun n => absurd c n⟩
      · generalize hO : sOwn (τ 1) (τ 1 (88 + 4 * l1)) (τ 1 (88 + 4 * l1 + 1)) (τ 1 7 % 12) = O at *
        have wg := wf_grown (k := l1) (x := 0) w c (by omega)
        have v2 : ku (τ 1) (88 + 4 * l1 + 3) 0 2 = τ 1 2 := ku_ne (by omega)
        have hO2 : sKt (ku (τ 1) (88 + 4 * l1 + 3) 0) O := by show 0 ≤ O ∧ O < ku (τ 1) (88 + 4 * l1 + 3) 0 2; rw [v2]; omega
        have vw : ku (τ 1) (88 + 4 * l1 + 3) 0 (88 + 4 * l1 + 2) = τ 1 (88 + 4 * l1 + 2) := ku_ne (by omega)
        have ok := sEarn_ok (n := τ 1 (88 + 4 * l1 + 2)) wg hO2 (by omega)
        refine ⟨_, _, S_X11_reap (v := τ 1) (Q := fun r s => r = O ∧ ∃ u, s = kup u 0 0 0 ∧ (∀ x, ¬ scX x → ¬ (5 ≤ x ∧ x < 31) → u x = σ x) ∧ u 82 6 = σ 82 6 ∧ (∀ n, 0 ≤ n → n < 14 → u (11 + n) 0 = σ (11 + n) 0) ∧ kco u 5 (sEarn (ku (τ 1) (88 + 4 * l1 + 3) 0) O (τ 1 (88 + 4 * l1 + 2)))) ⟨⟨w, k, r1⟩, fun _ => ⟨by omega, Run.mono (P_X2_isRipe (v := τ 1) kx ⟨w, k, c1, c2⟩) (fun r s e => ?_)⟩, fun n => absurd c n⟩, S_X12_reap (Q := fun r t => r = O ∧ t = kup (kst τ 1 (sEarn (ku (τ 1) (88 + 4 * l1 + 3) 0) O (τ 1 (88 + 4 * l1 + 2)))) 0 2 0) ?_, fun r s r' t x y => ?_⟩
        · rw [e.1, e.2, kb_1 rp]
          refine ⟨by decide, fun _ => look _ (fun s9 f1 f2 f3 f4 f5 f6 f7 => ?_), fun n => absurd n (by decide)⟩
          rw [f4, f5, f6]
          have kg := kco_grown (x := 0) w f2 c
          have kp := (kg.2.2.1 O hO2.1 hO2.2).2.1.2.2
          have wp := wg.2.2.1 O hO2.1 hO2.2
          have k3 : (kup s9 (5 + 12 + l1) 4 0) (5 + 12 + l1) 3 = τ 1 (88 + 4 * l1 + 2) := by rw [kup_j (by omega)]; exact f7
          rw [kp, k3]
          have kq := kco_purse (x := min 9999 (ku (τ 1) (88 + 4 * l1 + 3) 0 (34 + 9 * O + 5) + τ 1 (88 + 4 * l1 + 2))) wg kg hO2
          refine ⟨by omega, by constructor <;> omega, fun _ => ⟨by omega, ⟨by decide, by constructor <;> omega⟩, rfl, _, rfl, fun x a b => ?_, ?_, fun n a b => ?_, kq⟩, fun n => absurd n ow⟩
          · rw [kup_o (by omega), kup_o (by omega)]; exact f1.1 x a
          · rw [kup_o (by omega), kup_o (by omega)]; exact f1.2
          · rw [← f3 (11 + n) (by omega) (by omega)]
            have z1 : ∀ (u : Kmem) (x j y : Int), j ≠ 0 → (kup u x j y) (11 + n) 0 = u (11 + n) 0 := fun u x j y hj => by
              by_cases e : 11 + n = x
              · rw [e]; exact kup_j (by omega)
              · exact kup_x e
            rw [z1 _ _ _ _ (by omega), z1 _ _ _ _ (by omega)]
        · have kk1 : (kup τ 1 (88 + 4 * l1 + 3) 0) 1 = ku (τ 1) (88 + 4 * l1 + 3) 0 := by rw [kup_k, kst_eq]
          have kk2 : kst (kup τ 1 (88 + 4 * l1 + 3) 0) 1 (sEarn (ku (τ 1) (88 + 4 * l1 + 3) 0) O (τ 1 (88 + 4 * l1 + 2))) = kst τ 1 (sEarn (ku (τ 1) (88 + 4 * l1 + 3) 0) O (τ 1 (88 + 4 * l1 + 2))) := by rw [kup_k, kst_kst]
          rw [hO, kk1, vw, kk2]
          exact ⟨⟨r1, w⟩, fun _ => ⟨⟨w, c1, c2⟩, fun _ => ⟨by omega, by omega, by omega, ⟨w, by omega, by omega, hr⟩, by constructor <;> omega, fun _ => ⟨by omega, by omega, ⟨wg, hO2, by omega⟩, rfl, rfl⟩, fun n => absurd n ow⟩, fun n => absurd rp n⟩, fun n => absurd c n⟩
        · obtain ⟨x1, u, rfl, u1, u2, u3, u4⟩ := x
          refine ⟨by rw [x1, y.1], ?_⟩
          rw [y.2]
          have far : ∀ j, (j < 34 ∨ 150 ≤ j) → sEarn (ku (τ 1) (88 + 4 * l1 + 3) 0) O (τ 1 (88 + 4 * l1 + 2)) j = τ 1 j := fun j hj => by
            unfold sEarn; rw [ku_ne (by omega), ku_ne (by omega)]
          exact R_st (R_cty h u1 u2 u3 ok.1 (by rw [far 7 (by omega)]; exact h7) u4 (fun j a b => far j (Or.inr a)) ⟨far 8 (by omega), far 2 (by omega), far 3 (by omega)⟩) (by decide)
    · refine Op_pure (-1) 7 h (by decide) (S_X11_reap (v := τ 1) ⟨⟨w, k, r1⟩, fun _ => ⟨by omega, Run.mono (P_X2_isRipe (v := τ 1) kx ⟨w, k, c1, c2⟩) (fun r s e => ?_)⟩, fun n => absurd c n⟩) (S_X12_reap ⟨⟨r1, w⟩, fun _ => ⟨⟨w, c1, c2⟩, fun n => absurd n rp, fun _ => ⟨rfl, fM.refl⟩⟩, fun n => absurd c n⟩)
      rw [e.1, e.2, kb_0 rp]
      exact ⟨by decide, fun n => absurd rfl n, fun _ => ⟨rfl, fX.refl⟩⟩
  · refine Op_pure (-1) 1 h (by decide) (S_X11_reap (v := τ 1) ⟨⟨w, k, r1⟩, fun y => absurd y c, fun _ => ⟨rfl, fX.refl⟩⟩) (S_X12_reap ⟨⟨r1, w⟩, fun y => absurd y c, fun _ => ⟨rfl, fM.refl⟩⟩)
/-! what lives comes to -/
theorem sLF_lp {τ : Kmem} {k : Int} (h : sLv τ k) : lpR (τ 18) := h.2.2.2.2
theorem sRun_ok : ∀ (n : Nat) (k : Int) (τ : Kmem), sLv τ k → (τ 19 4 = 0 ∨ τ 19 4 = 1) → (wf (sRun n k τ 1) ∧ pwf (sRun n k τ 1) ∧ sRun n k τ 1 7 ≤ 9999) ∧ sLF (sRun n k τ) τ ∧ lpR (sRun n k τ 18) ∧ (sRun n k τ 19 4 = 0 ∨ sRun n k τ 19 4 = 1)
  | 0, k, τ, h, h4 => by
    show (wf (kif (τ 1 8 ≤ k) τ (kup τ 19 4 1) 1) ∧ pwf (kif (τ 1 8 ≤ k) τ (kup τ 19 4 1) 1) ∧ kif (τ 1 8 ≤ k) τ (kup τ 19 4 1) 1 7 ≤ 9999) ∧ sLF (kif (τ 1 8 ≤ k) τ (kup τ 19 4 1)) τ ∧ lpR (kif (τ 1 8 ≤ k) τ (kup τ 19 4 1) 18) ∧ (kif (τ 1 8 ≤ k) τ (kup τ 19 4 1) 19 4 = 0 ∨ kif (τ 1 8 ≤ k) τ (kup τ 19 4 1) 19 4 = 1)
    by_cases q : τ 1 8 ≤ k
    · rw [kif_t q]; exact ⟨h.1, sLF.refl, sLF_lp h, h4⟩
    · rw [kif_f q]
      have e1 : (kup τ 19 4 1) 1 = τ 1 := kup_o (by omega)
      have e18 : (kup τ 19 4 1) 18 = τ 18 := kup_o (by omega)
      rw [e1, e18]
      exact ⟨h.1, sLF_19, sLF_lp h, Or.inr kup_at⟩
  | n + 1, k, τ, h, h4 => by
    have e : sRun (n + 1) k τ = kif (τ 1 8 ≤ k) τ (kif (((τ 1) (150 + 6 * k)) = 23) (sTick τ) (sRun n (sAll (sTick τ) k).1 (kst (sAft (sTick τ) k) 18 (sAll (sTick τ) k).2))) := rfl
    rw [e]
    by_cases q : τ 1 8 ≤ k
    · rw [kif_t q]; exact ⟨h.1, sLF.refl, sLF_lp h, h4⟩
    rw [kif_f q]
    have ht := sTick_lv h
    have t1 : sTick τ 1 = τ 1 := kup_o (by omega)
    have t19 : sTick τ 19 = τ 19 := kup_o (by omega)
    have lf : sLF (sTick τ) τ := sLF_0 (Or.inr rfl)
    by_cases q2 : ((τ 1) (150 + 6 * k)) = 23
    · rw [kif_t q2]
      have t18 : sTick τ 18 = τ 18 := kup_o (by omega)
      rw [t1, t19, t18]
      exact ⟨h.1, lf, sLF_lp h, h4⟩
    rw [kif_f q2]
    have hk : k < sTick τ 1 8 := by rw [t1]; omega
    have ok := sAll_ok ht hk
    have oka := sAft_ok ht hk
    have ih := sRun_ok n _ _ ok (by rw [kst_ne (by omega), oka.2.2.2.2.2.2, t19]; exact h4)
    exact ⟨ih.1, ih.2.1.trans (sLF_18.trans (oka.2.1.trans lf)), ih.2.2⟩
theorem sBeg_f {σ : Kmem} {seed : Int} : sLF (sBeg σ seed) σ ∧ sBeg σ seed 19 4 = 0 := by
  refine ⟨⟨fun x a b c d => ?_, fun j a b => ?_, ?_, ?_⟩, ?_⟩
  · unfold sBeg; rw [kst_ne d, kup_o a, kup_o a]
  · unfold sBeg; rw [kst_ne (by omega), kup_j b, kup_j a]
  · unfold sBeg; rw [kst_ne (by omega), kup_o (by omega), kup_o (by omega)]; exact kfar.refl
  · unfold sBeg; rw [kst_ne (by omega), kup_o (by omega), kup_o (by omega)]; exact pEq.refl
  · unfold sBeg; rw [kst_eq, if_pos (by omega)]
theorem O_lived {G G' : Kg} {σ τ : Kmem} {l1 : Int} (h : R σ τ) (r1 : rI l1) : Op G G' M_X11_lived M_X12_lived 1 1 [vA G 0, vI l1] [vA G' 0, vI l1] σ τ := by
  obtain ⟨⟨a1, a2⟩, a3⟩ := h.2.2.2.2.2.2.2.1
  by_cases c : 0 ≤ l1 ∧ l1 ≤ 4
  · rcases a2 with z | z
    · refine Op_pure (-1) 6 h (by decide) (S_X11_lived ?_) (S_X12_lived ?_)
      · rw [a1, z]
        all_goals (repeat' (with_reducible first | assumption | intro _ | refine And.intro ?_ ?_))
        all_goals (first | omega | contradiction | rfl | exact fX.refl | exact fM.refl | exact kb_0 (by decide) | exact kb_1 rfl | trivial | skip)
      · rw [z]
        all_goals (repeat' (with_reducible first | assumption | intro _ | refine And.intro ?_ ?_))
        all_goals (first | omega | contradiction | rfl | exact fX.refl | exact fM.refl | exact kb_0 (by decide) | exact kb_1 rfl | trivial | skip)
    · obtain ⟨⟨b0, b1, b2⟩, b3, b4, b5⟩ := a3 z
      rw [z] at a1
      have y : l1 = 0 ∨ l1 = 1 ∨ l1 = 2 ∨ l1 = 3 ∨ l1 = 4 := by omega
      refine Op_pure (τ 20 l1) 0 h (by decide) (S_X11_lived ?_) (S_X12_lived ?_)
      · rw [a1]
        rcases y with rfl | rfl | rfl | rfl | rfl
        · all_goals (repeat' (with_reducible first | assumption | intro _ | refine And.intro ?_ ?_))
          all_goals (first | omega | contradiction | rfl | exact fX.refl | exact fM.refl | exact kb_0 (by decide) | exact kb_1 rfl | trivial | skip)
        · all_goals (repeat' (with_reducible first | assumption | intro _ | refine And.intro ?_ ?_))
          all_goals (first | omega | contradiction | rfl | exact fX.refl | exact fM.refl | exact kb_0 (by decide) | exact kb_1 rfl | trivial | skip)
        · all_goals (repeat' (with_reducible first | assumption | intro _ | refine And.intro ?_ ?_))
          all_goals (first | omega | contradiction | rfl | exact fX.refl | exact fM.refl | exact kb_0 (by decide) | exact kb_1 rfl | trivial | skip)
        · all_goals (repeat' (with_reducible first | assumption | intro _ | refine And.intro ?_ ?_))
          all_goals (first | omega | contradiction | rfl | exact fX.refl | exact fM.refl | exact kb_0 (by decide) | exact kb_1 rfl | trivial | skip)
        · rw [b4]
          rcases b5 with b5 | b5 <;> rw [b5]
          · all_goals (repeat' (with_reducible first | assumption | intro _ | refine And.intro ?_ ?_))
            all_goals (first | omega | contradiction | rfl | exact fX.refl | exact fM.refl | exact kb_0 (by decide) | exact kb_1 rfl | trivial | skip)
          · all_goals (repeat' (with_reducible first | assumption | intro _ | refine And.intro ?_ ?_))
            all_goals (first | omega | contradiction | rfl | exact fX.refl | exact fM.refl | exact kb_0 (by decide) | exact kb_1 rfl | trivial | skip)
      · rw [z]
        all_goals (repeat' (with_reducible first | assumption | intro _ | refine And.intro ?_ ?_))
        all_goals (first | omega | contradiction | rfl | exact fX.refl | exact fM.refl | exact kb_0 (by decide) | exact kb_1 rfl | trivial | skip)
  · refine Op_pure (-1) 1 h (by decide) (S_X11_lived ?_) (S_X12_lived ?_)
    all_goals (repeat' (with_reducible first | assumption | intro _ | refine And.intro ?_ ?_))
    all_goals (first | omega | contradiction | rfl | exact fX.refl | exact fM.refl | exact kb_0 (by decide) | exact kb_1 rfl | trivial | skip)
