theorem fX_co {s σ : Kmem} {v : Int → Int} (f : fX s σ) (w : wf v) (k : kco σ 5 v) : kco s 5 v := kco_kfm (A := scX) w k f.1 (fun x a b q => by unfold scX at q; omega)
theorem kb_not {P : Prop} : kb P + kb (¬ P) = 1 := by
  by_cases h : P
  · rw [kb_1 h, kb_0 (fun n => n h)]; rfl
  · rw [kb_0 h, kb_1 h]; rfl
theorem kcol_not {q : Int → Prop} : ∀ (D : Nat) (n m : Int), kfor (fun r n => n + kb (q r)) D n + kfor (fun r n => n + kb (¬ q r)) D m = n + m + D
  | 0, n, m => by show n + m = n + m + 0; omega
  | D + 1, n, m => by
    show (kfor (fun r n => n + kb (q r)) D n + kb (q D)) + (kfor (fun r n => n + kb (¬ q r)) D m + kb (¬ q D)) = _
    have := kcol_not (q := q) D n m
    have := kb_not (P := q D)
    omega
theorem kcnt_not {p : Int → Int → Prop} (D : Nat) : ∀ W : Nat, kcnt p W D + kcnt (fun c r => ¬ p c r) W D = W * D
  | 0 => by show (0 : Int) + 0 = 0 * D; omega
  | W + 1 => by
    have h1 : kcnt p (W + 1) D = kfor (fun r n => n + kb (p W r)) D (kcnt p W D) := rfl
    have h2 : kcnt (fun c r => ¬ p c r) (W + 1) D = kfor (fun r n => n + kb (¬ p W r)) D (kcnt (fun c r => ¬ p c r) W D) := rfl
    rw [h1, h2, kcol_not, kcnt_not D W]
    have : ((W + 1 : Nat) : Int) * D = W * D + D := by rw [Int.natCast_add, Int.add_mul]; simp
    omega
theorem sHad_est {v : Int → Int} {h : Int} (w : wf v) : sHad v h = v 0 * v 1 - sEst v (-1) h := by
  have w1 := wf_h w
  have := kcnt_not (p := fun c r => sOwn v c r h = -1) (v 1).toNat (v 0).toNat
  rw [show ((v 0).toNat : Int) = v 0 by omega, show ((v 1).toNat : Int) = v 1 by omega] at this
  have e1 : sEst v (-1) h = kcnt (fun c r => sOwn v c r h = -1) (v 0).toNat (v 1).toNat := rfl
  have e2 : sHad v h = kcnt (fun c r => ¬ sOwn v c r h = -1) (v 0).toNat (v 1).toNat := rfl
  omega
/-- the first best of those below n of which P holds, -1 if there is none -/
def fb (f : Int → Int) (P : Int → Prop) (n b : Int) : Prop := (b = -1 → ∀ k, 0 ≤ k → k < n → ¬ P k) ∧ (b ≠ -1 → (0 ≤ b ∧ b < n ∧ P b) ∧ (∀ k, 0 ≤ k → k < n → P k → f k ≤ f b) ∧ ∀ k, 0 ≤ k → k < b → P k → f k < f b)
theorem fb_0 {f : Int → Int} {P : Int → Prop} : fb f P 0 (-1) := ⟨fun _ k a b => by omega, fun n => absurd rfl n⟩
theorem fb_no {f : Int → Int} {P : Int → Prop} {n b : Int} (h : fb f P n b) (q : P n → b ≠ -1 ∧ f n ≤ f b) : fb f P (n + 1) b := by
  refine ⟨fun e k a c p => ?_, fun ne => ⟨⟨(h.2 ne).1.1, by have := (h.2 ne).1.2.1; omega, (h.2 ne).1.2.2⟩, fun k a c p => ?_, (h.2 ne).2.2⟩⟩
  · by_cases x : k = n
    · subst x; exact (q p).1 e
    · exact h.1 e k a (by omega) p
  · by_cases x : k = n
    · subst x; exact (q p).2
    · exact (h.2 ne).2.1 k a (by omega) p
theorem fb_yes {f : Int → Int} {P : Int → Prop} {n b : Int} (h : fb f P n b) (p : P n) (hn : 0 ≤ n) (q : b ≠ -1 → f b < f n) : fb f P (n + 1) n := by
  have le : ∀ k, 0 ≤ k → k < n → P k → f k < f n := fun k a c pk => by
    by_cases e : b = -1
    · exact absurd pk (h.1 e k a c)
    · have := (h.2 e).2.1 k a c pk
      have := q e
      omega
  refine ⟨fun e => by omega, fun _ => ⟨⟨hn, by omega, p⟩, fun k a c pk => ?_, fun k a c pk => le k a c pk⟩⟩
  by_cases x : k = n
  · subst x; exact Int.le_refl _
  · have := le k a (by omega) pk; omega
theorem fb_u {f : Int → Int} {P : Int → Prop} {n a b : Int} (h : fb f P n a) (g : fb f P n b) : a = b := by
  by_cases ea : a = -1
  · by_cases eb : b = -1
    · omega
    · have := (g.2 eb).1; exact absurd this.2.2 (h.1 ea b this.1 this.2.1)
  · have ha := h.2 ea
    by_cases eb : b = -1
    · exact absurd ha.1.2.2 (g.1 eb a ha.1.1 ha.1.2.1)
    · have hb := g.2 eb
      have h1 := ha.2.1 b hb.1.1 hb.1.2.1 hb.1.2.2
      have h2 := hb.2.1 a ha.1.1 ha.1.2.1 ha.1.2.2
      by_cases x : a < b
      · have := hb.2.2 a ha.1.1 x ha.1.2.2; omega
      by_cases y : b < a
      · have := ha.2.2 b hb.1.1 y hb.1.2.2; omega
      · omega
theorem fb_r {f : Int → Int} {P : Int → Prop} {n b : Int} (h : fb f P n b) : -1 ≤ b ∧ (b < n ∨ b = -1) := by
  by_cases e : b = -1
  · omega
  · have := (h.2 e).1; omega
theorem st6_r {P : Prop} : rI (kif P 6 0) := by
  by_cases h : P
  · rw [kif_t h]; decide
  · rw [kif_f h]; decide
theorem Op_fb {G G' : Kg} {M M' : Km} {d d' : Nat} {as as' : List Value} {σ τ : Kmem} {f : Int → Int} {P : Int → Prop} {n : Int} (h : R σ τ) (hx : Run G WX M d 0 0 as σ (fun r s => fb f P n r ∧ fX s (kup σ 0 0 (kif (r = -1) 6 0)))) (hm : Run G' WM M' d' 0 0 as' τ (fun r t => fb f P n r ∧ fM t (kup τ 0 2 (kif (r = -1) 6 0)))) : Op G G' M M' d d' as as' σ τ :=
  ⟨_, _, hx, hm, fun r s r' t x y => by
    have e := fb_u x.1 y.1
    subst e
    exact ⟨rfl, R_pure h st6_r x.2 y.2⟩⟩
theorem O_stands {G G' : Kg} {σ τ : Kmem} {l1 l2 l3 : Int} (h : R σ τ) (r1 : rI l1) (r2 : rI l2) (r3 : rI l3) : Op G G' M_X11_stands M_X12_stands 4 4 [vA G 0, vI l1, vI l2, vI l3] [vA G' 0, vI l1, vI l2, vI l3] σ τ := by
  obtain ⟨w, k⟩ := R_w h
  have w1 := wf_h w
  by_cases c : sKt (τ 1) l1 ∧ sHr l2 ∧ 0 ≤ l3 ∧ l3 ≤ 1
  · obtain ⟨n, rfl⟩ := Int.eq_ofNat_of_zero_le c.1.1
    have go : ∀ a st, (sUp (τ 1) n l2 → st = 0 ∧ (l3 = 0 → a = sCol (τ 1) n l2) ∧ (l3 ≠ 0 → a = sRow (τ 1) n l2)) → (¬ sUp (τ 1) n l2 → st = 6 ∧ a = -1) → Run G WX M_X8_look 3 0 0 [vA G 58, vA G 5, vI l2] σ (fun r14 s15 => Run G WX M_X8_isUp 0 0 0 [vA G 58, vI (n : Int)] s15 (fun r16 s17 => (rI r16) ∧ ((r16 ≠ 0 → ((l3 ≠ 0 → (0 ≤ (n : Int) ∧ (n : Int) < 6) ∧ (s17 60 n = a ∧ fX (kup s17 0 0 0) (kup σ 0 0 st))) ∧ (l3 = 0 → (0 ≤ (n : Int) ∧ (n : Int) < 6) ∧ (s17 59 n = a ∧ fX (kup s17 0 0 0) (kup σ 0 0 st))))) ∧ (r16 = 0 → (-1 : Int) = a ∧ fX (kup s17 0 0 6) (kup σ 0 0 st))))) := by
      intro a st hu hn
      refine Run.mono (P_X8_look (v := τ 1) isC_5 ⟨w, k, c.2.1⟩) (fun r s e => ?_)
      obtain ⟨-, e1, e2, e3, e4⟩ := e
      refine Run.mono (P_X8_isUp (p := fun k => sBorne (τ 1) k l2 ∧ ¬ sCt (τ 1) k) (n := (τ 1 2).toNat) ⟨by omega, by omega, e3.2.1⟩) (fun r2 s2 f => ?_)
      obtain ⟨f1, f2⟩ := f
      subst f2
      have hc := e3.2.2 n c.1.1 c.1.2
      have up : (sBorne (τ 1) n l2 ∧ ¬ sCt (τ 1) n) ↔ sUp (τ 1) n l2 := ⟨fun q => ⟨q.2, q.1⟩, fun q => ⟨q.2, q.1⟩⟩
      have fr := fX_sky e1
      refine ⟨by rw [f1]; exact kb_r _, fun ne => ?_, fun e0 => ?_⟩
      · have u := hu (up.1 (kb_t (by rw [← f1]; exact ne)))
        rw [u.1]
        exact ⟨fun q => ⟨by omega, by rw [hc.2.1, u.2.2 q], fX_st fr⟩, fun q => ⟨by omega, by rw [hc.1, u.2.1 q], fX_st fr⟩⟩
      · have u := hn (fun q => kb_f (by rw [← f1]; exact e0) (up.2 q))
        rw [u.1, u.2]
        exact ⟨rfl, fX_st fr⟩
    by_cases u : sUp (τ 1) n l2
    · by_cases z : l3 = 0
      · refine Op_pure (sCol (τ 1) n l2) 0 h (by decide) (S_X11_stands (v := τ 1) ?_) (S_X12_stands ?_)
        · have := go (sCol (τ 1) n l2) 0 (fun _ => ⟨rfl, fun _ => rfl, fun q => absurd z q⟩) (fun q => absurd u q)
          all_goals (repeat' (with_reducible first | assumption | intro _ | refine And.intro ?_ ?_))
          all_goals (first | omega | contradiction | rfl | exact fX.refl | exact fM.refl | exact kb_0 (by decide) | exact kb_1 rfl | trivial | skip)
        · all_goals (repeat' (with_reducible first | assumption | intro _ | refine And.intro ?_ ?_))
          all_goals (first | omega | contradiction | rfl | exact fX.refl | exact fM.refl | exact kb_0 (by decide) | exact kb_1 rfl | trivial | skip)
      · refine Op_pure (sRow (τ 1) n l2) 0 h (by decide) (S_X11_stands (v := τ 1) ?_) (S_X12_stands ?_)
        · have := go (sRow (τ 1) n l2) 0 (fun _ => ⟨rfl, fun q => absurd q z, fun _ => rfl⟩) (fun q => absurd u q)
          all_goals (repeat' (with_reducible first | assumption | intro _ | refine And.intro ?_ ?_))
          all_goals (first | omega | contradiction | rfl | exact fX.refl | exact fM.refl | exact kb_0 (by decide) | exact kb_1 rfl | trivial | skip)
        · all_goals (repeat' (with_reducible first | assumption | intro _ | refine And.intro ?_ ?_))
          all_goals (first | omega | contradiction | rfl | exact fX.refl | exact fM.refl | exact kb_0 (by decide) | exact kb_1 rfl | trivial | skip)
    · refine Op_pure (-1) 6 h (by decide) (S_X11_stands (v := τ 1) ?_) (S_X12_stands ?_)
      · have := go (-1) 6 (fun q => absurd q u) (fun _ => ⟨rfl, rfl⟩)
        all_goals (repeat' (with_reducible first | assumption | intro _ | refine And.intro ?_ ?_))
        all_goals (first | omega | contradiction | rfl | exact fX.refl | exact fM.refl | exact kb_0 (by decide) | exact kb_1 rfl | trivial | skip)
      · all_goals (repeat' (with_reducible first | assumption | intro _ | refine And.intro ?_ ?_))
        all_goals (first | omega | contradiction | rfl | exact fX.refl | exact fM.refl | exact kb_0 (by decide) | exact kb_1 rfl | trivial | skip)
  · refine Op_pure (-1) 1 h (by decide) (S_X11_stands (v := τ 1) ?_) (S_X12_stands ?_)
    all_goals (repeat' (with_reducible first | assumption | intro _ | refine And.intro ?_ ?_))
    all_goals (first | omega | contradiction | rfl | exact fX.refl | exact fM.refl | exact kb_0 (by decide) | exact kb_1 rfl | trivial | skip)
theorem O_owner {G G' : Kg} {σ τ : Kmem} {l1 l2 l3 : Int} (h : R σ τ) (r1 : rI l1) (r2 : rI l2) (r3 : rI l3) : Op G G' M_X11_owner M_X12_owner 4 7 [vA G 0, vI l1, vI l2, vI l3] [vA G' 0, vI l1, vI l2, vI l3] σ τ := by
  obtain ⟨w, k⟩ := R_w h
  have w1 := wf_h w
  have o := sOwn_r (v := τ 1) (c := l1) (r := l2) (h := l3) w
  by_cases c : sFld (τ 1) l1 l2 ∧ sHr l3
  · refine Op_pure (sOwn (τ 1) l1 l2 l3) (kif (sOwn (τ 1) l1 l2 l3 = -1) 6 0) h st6_r (S_X11_owner (v := τ 1) ?_) (S_X12_owner ?_)
    · all_goals (repeat' (with_reducible first | assumption | intro _ | refine And.intro ?_ ?_))
      all_goals (first | omega | contradiction | rfl | exact fX.refl | exact fM.refl | exact kb_0 (by decide) | exact kb_1 rfl | trivial | skip)
      refine Run.mono (P_X8_look (v := τ 1) isC_5 ⟨w, k, c.2⟩) (fun r s e => ?_)
      obtain ⟨-, e1, e2, e3, e4⟩ := e
      rw [(skD_own w e4 c.1).2]
      exact ⟨by omega, by constructor <;> omega, fun q => ⟨rfl, by rw [kif_f q]; exact fX_st (fX_sky e1)⟩, fun q => ⟨q.symm, by rw [kif_t q]; exact fX_st (fX_sky e1)⟩⟩
    · all_goals (repeat' (with_reducible first | assumption | intro _ | refine And.intro ?_ ?_))
      all_goals (first | omega | contradiction | rfl | exact fX.refl | exact fM.refl | exact kb_0 (by decide) | exact kb_1 rfl | trivial | skip)
  · refine Op_pure (-1) 1 h (by decide) (S_X11_owner (v := τ 1) ?_) (S_X12_owner ?_)
    all_goals (repeat' (with_reducible first | assumption | intro _ | refine And.intro ?_ ?_))
    all_goals (first | omega | contradiction | rfl | exact fX.refl | exact fM.refl | exact kb_0 (by decide) | exact kb_1 rfl | trivial | skip)
theorem O_shaders {G G' : Kg} {σ τ : Kmem} {l1 l2 l3 : Int} (h : R σ τ) (r1 : rI l1) (r2 : rI l2) (r3 : rI l3) : Op G G' M_X11_shaders M_X12_shaders 4 6 [vA G 0, vI l1, vI l2, vI l3] [vA G' 0, vI l1, vI l2, vI l3] σ τ := by
  obtain ⟨w, k⟩ := R_w h
  have w1 := wf_h w
  by_cases c : sFld (τ 1) l1 l2 ∧ sHr l3
  · refine Op_pure (sShs (τ 1) l1 l2 l3 : Int) 0 h (by decide) (S_X11_shaders (v := τ 1) ?_) (S_X12_shaders ?_)
    · all_goals (repeat' (with_reducible first | assumption | intro _ | refine And.intro ?_ ?_))
      all_goals (first | omega | contradiction | rfl | exact fX.refl | exact fM.refl | exact kb_0 (by decide) | exact kb_1 rfl | trivial | skip)
      refine Run.mono (P_X8_look (v := τ 1) isC_5 ⟨w, k, c.2⟩) (fun r s e => ?_)
      obtain ⟨-, e1, e2, e3, e4⟩ := e
      exact ⟨by omega, (skD_own w e4 c.1).1, fX_st (fX_sky e1)⟩
    · all_goals (repeat' (with_reducible first | assumption | intro _ | refine And.intro ?_ ?_))
      all_goals (first | omega | contradiction | rfl | exact fX.refl | exact fM.refl | exact kb_0 (by decide) | exact kb_1 rfl | trivial | skip)
  · refine Op_pure (-1) 1 h (by decide) (S_X11_shaders (v := τ 1) ?_) (S_X12_shaders ?_)
    all_goals (repeat' (with_reducible first | assumption | intro _ | refine And.intro ?_ ?_))
    all_goals (first | omega | contradiction | rfl | exact fX.refl | exact fM.refl | exact kb_0 (by decide) | exact kb_1 rfl | trivial | skip)
theorem O_estate {G G' : Kg} {σ τ : Kmem} {l1 l2 : Int} (h : R σ τ) (r1 : rI l1) (r2 : rI l2) : Op G G' M_X11_estate M_X12_estate 4 8 [vA G 0, vI l1, vI l2] [vA G' 0, vI l1, vI l2] σ τ := by
  obtain ⟨w, k⟩ := R_w h
  have w1 := wf_h w
  by_cases c : sKt (τ 1) l1 ∧ sHr l2
  · refine Op_pure (sEst (τ 1) l1 l2) 0 h (by decide) (S_X11_estate (v := τ 1) ?_) (S_X12_estate ?_)
    · all_goals (repeat' (with_reducible first | assumption | intro _ | refine And.intro ?_ ?_))
      all_goals (first | omega | contradiction | rfl | exact fX.refl | exact fM.refl | exact kb_0 (by decide) | exact kb_1 rfl | trivial | skip)
      refine Run.mono (P_X8_look (v := τ 1) isC_5 ⟨w, k, c.2⟩) (fun r s e => ?_)
      obtain ⟨-, e1, e2, e3, e4⟩ := e
      refine Run.mono (P_X8_fieldsOf (v := τ 1) (h := l2) ⟨⟨w, e4⟩, c.1⟩) (fun r2 s2 f => ?_)
      rw [f.1, f.2]
      exact ⟨rfl, fX_st (fX_sky e1)⟩
    · all_goals (repeat' (with_reducible first | assumption | intro _ | refine And.intro ?_ ?_))
      all_goals (first | omega | contradiction | rfl | exact fX.refl | exact fM.refl | exact kb_0 (by decide) | exact kb_1 rfl | trivial | skip)
  · refine Op_pure (-1) 1 h (by decide) (S_X11_estate (v := τ 1) ?_) (S_X12_estate ?_)
    all_goals (repeat' (with_reducible first | assumption | intro _ | refine And.intro ?_ ?_))
    all_goals (first | omega | contradiction | rfl | exact fX.refl | exact fM.refl | exact kb_0 (by decide) | exact kb_1 rfl | trivial | skip)
theorem O_nobodys {G G' : Kg} {σ τ : Kmem} {l1 : Int} (h : R σ τ) (r1 : rI l1) : Op G G' M_X11_nobodys M_X12_nobodys 4 8 [vA G 0, vI l1] [vA G' 0, vI l1] σ τ := by
  obtain ⟨w, k⟩ := R_w h
  have w1 := wf_h w
  by_cases c : sHr l1
  · refine Op_pure (sEst (τ 1) (-1) l1) 0 h (by decide) (S_X11_nobodys ?_) (S_X12_nobodys ?_)
    · all_goals (repeat' (with_reducible first | assumption | intro _ | refine And.intro ?_ ?_))
      all_goals (first | omega | contradiction | rfl | exact fX.refl | exact fM.refl | exact kb_0 (by decide) | exact kb_1 rfl | trivial | skip)
      refine Run.mono (P_X8_look (v := τ 1) isC_5 ⟨w, k, c⟩) (fun r s e => ?_)
      obtain ⟨-, e1, e2, e3, e4⟩ := e
      refine Run.mono (P_X8_ownedFields (v := τ 1) (h := l1) ⟨w, e4⟩) (fun r2 s2 f => ?_)
      have q := kco_h e2
      rw [f.1, f.2, q.1.1, q.1.2.1, sHad_est w]
      exact ⟨by omega, fX_st (fX_sky e1)⟩
    · all_goals (repeat' (with_reducible first | assumption | intro _ | refine And.intro ?_ ?_))
      all_goals (first | omega | contradiction | rfl | exact fX.refl | exact fM.refl | exact kb_0 (by decide) | exact kb_1 rfl | trivial | skip)
  · refine Op_pure (-1) 1 h (by decide) (S_X11_nobodys ?_) (S_X12_nobodys ?_)
    all_goals (repeat' (with_reducible first | assumption | intro _ | refine And.intro ?_ ?_))
    all_goals (first | omega | contradiction | rfl | exact fX.refl | exact fM.refl | exact kb_0 (by decide) | exact kb_1 rfl | trivial | skip)
theorem O_disputed {G G' : Kg} {σ τ : Kmem} {l1 : Int} (h : R σ τ) (r1 : rI l1) : Op G G' M_X11_disputed M_X12_disputed 4 6 [vA G 0, vI l1] [vA G' 0, vI l1] σ τ := by
  obtain ⟨w, k⟩ := R_w h
  have w1 := wf_h w
  by_cases c : sHr l1
  · refine Op_pure (sDisp (τ 1) l1) 0 h (by decide) (S_X11_disputed ?_) (S_X12_disputed ?_)
    · all_goals (repeat' (with_reducible first | assumption | intro _ | refine And.intro ?_ ?_))
      all_goals (first | omega | contradiction | rfl | exact fX.refl | exact fM.refl | exact kb_0 (by decide) | exact kb_1 rfl | trivial | skip)
      refine Run.mono (P_X8_look (v := τ 1) isC_5 ⟨w, k, c⟩) (fun r s e => ?_)
      obtain ⟨-, e1, e2, e3, e4⟩ := e
      refine Run.mono (P_X8_disputedFields (v := τ 1) (h := l1) ⟨w, e4⟩) (fun r2 s2 f => ?_)
      rw [f.1, f.2]
      exact ⟨rfl, fX_st (fX_sky e1)⟩
    · refine ⟨r1, fun _ => ?_, fun n => absurd c n⟩
      generalize hQ : (fun (r : Int) (t : Kmem) => r = sDisp (τ 1) l1 ∧ fM t (kup τ 0 2 0)) = Q
      refine kgrid (p := fun x y => 1 < (kbits (sShs (τ 1) x y l1) : Int)) (W := (τ 1 0).toNat) (D := (τ 1 1).toNat) (E1 := fun x n => E_X12_disputed_17 G' l1 n x τ Q) (E2 := fun x y n => E_X12_disputed_30 G' l1 n x y τ Q) (X := True) (fun x n hx he hs => S_X12_disputed_17 ⟨by omega, by omega, fun q => ?_, fun q => hs (by omega)⟩) (fun x y n hx hy he hs => S_X12_disputed_30 ⟨by omega, by omega, fun q => he (by omega), fun q => ?_⟩)
      · rw [← hQ]; exact ⟨he (by omega), fM.refl⟩
      · have r := sShs_r (v := τ 1) (c := x) (r := y) (h := l1) w
        have kr := kbits_r (a := ((sShs (τ 1) x y l1 : Nat) : Int).toNat)
        have hs := hs (by omega)
        refine ⟨⟨w, by omega, by omega, c⟩, r, by omega, fun g => ?_, fun g => ?_⟩
        · rw [kb_0 (by show ¬ (1 : Int) < _; exact fun z => by simp only [Int.toNat_natCast] at g; omega)] at hs; exact hs
        · rw [kb_1 (by simp only [Int.toNat_natCast] at g; exact g)] at hs; exact hs
  · refine Op_pure (-1) 1 h (by decide) (S_X11_disputed ?_) (S_X12_disputed ?_)
    all_goals (repeat' (with_reducible first | assumption | intro _ | refine And.intro ?_ ?_))
    all_goals (first | omega | contradiction | rfl | exact fX.refl | exact fM.refl | exact kb_0 (by decide) | exact kb_1 rfl | trivial | skip)
theorem O_crosses {G G' : Kg} {σ τ : Kmem} {l1 l2 l3 : Int} (h : R σ τ) (r1 : rI l1) (r2 : rI l2) (r3 : rI l3) : Op G G' M_X11_crosses M_X12_crosses 4 6 [vA G 0, vI l1, vI l2, vI l3] [vA G' 0, vI l1, vI l2, vI l3] σ τ := by
  obtain ⟨w, k⟩ := R_w h
  have w1 := wf_h w
  by_cases c : (sKt (τ 1) l1 ∧ sKt (τ 1) l2) ∧ l1 ≠ l2 ∧ sHr l3
  · obtain ⟨⟨c1, c2⟩, c3, c4⟩ := c
    obtain ⟨a, rfl⟩ := Int.eq_ofNat_of_zero_le c1.1
    obtain ⟨b, rfl⟩ := Int.eq_ofNat_of_zero_le c2.1
    refine Op_pure (kb (sX (τ 1) a b l3)) 0 h (by decide) (S_X11_crosses (v := τ 1) ?_) (S_X12_crosses ?_)
    · all_goals (repeat' (with_reducible first | assumption | intro _ | refine And.intro ?_ ?_))
      all_goals (first | omega | contradiction | rfl | exact fX.refl | exact fM.refl | exact kb_0 (by decide) | exact kb_1 rfl | trivial | skip)
      refine Run.mono (P_X8_look (v := τ 1) isC_5 ⟨w, k, c4⟩) (fun r s e => ?_)
      obtain ⟨-, e1, e2, e3, e4⟩ := e
      refine Run.mono (P_X8_doCross (v := τ 1) (h := l3) (q := sCt (τ 1)) isC_5 ⟨⟨w, e2, e3⟩, c4, c1.2, c2.2⟩) (fun r2 s2 f => ?_)
      obtain ⟨f1, f2⟩ := f
      have ix : (((sBorne (τ 1) a l3 ∧ ¬ sCt (τ 1) a) ∧ sBorne (τ 1) b l3 ∧ ¬ sCt (τ 1) b) ∧ sPts (τ 1) a b l3 ∧ sPts (τ 1) b a l3) ↔ sX (τ 1) a b l3 :=
        ⟨fun q => ⟨⟨⟨q.1.1.2, q.1.1.1⟩, q.1.2.2, q.1.2.1⟩, q.2⟩, fun q => ⟨⟨⟨q.1.1.2, q.1.1.1⟩, q.1.2.2, q.1.2.1⟩, q.2⟩⟩
      rw [kb_iff ix] at f1
      rw [f2, f1]
      exact ⟨kb_r _, fun z => ⟨z.symm, fX_st (fX_sky e1)⟩, fun z => ⟨(kb_1 (kb_t z)).symm, fX_st (fX_sky e1)⟩⟩
    · by_cases x : sX (τ 1) a b l3
      · rw [kb_1 x]
        all_goals (repeat' (with_reducible first | assumption | intro _ | refine And.intro ?_ ?_))
        all_goals (first | omega | contradiction | rfl | exact fX.refl | exact fM.refl | exact kb_0 (by decide) | exact kb_1 rfl | trivial | skip)
      · rw [kb_0 x]
        all_goals (repeat' (with_reducible first | assumption | intro _ | refine And.intro ?_ ?_))
        all_goals (first | omega | contradiction | rfl | exact fX.refl | exact fM.refl | exact kb_0 (by decide) | exact kb_1 rfl | trivial | skip)
  · refine Op_pure (-1) 1 h (by decide) (S_X11_crosses (v := τ 1) ?_) (S_X12_crosses ?_)
    all_goals (repeat' (with_reducible first | assumption | intro _ | refine And.intro ?_ ?_))
    all_goals (first | omega | contradiction | rfl | exact fX.refl | exact fM.refl | exact kb_0 (by decide) | exact kb_1 rfl | trivial | skip)
theorem O_doomed {G G' : Kg} {σ τ : Kmem} (h : R σ τ) : Op G G' M_X11_doomed M_X12_doomed 5 7 [vA G 0] [vA G' 0] σ τ := by
  obtain ⟨w, k⟩ := R_w h
  have w1 := wf_h w
  refine Op_pure (sDooms (τ 1) : Int) 0 h (by decide) (S_X11_doomed ?_) (S_X12_doomed ⟨w, rfl, fM.refl⟩)
  refine Run.mono (P_X11_lookNow (v := τ 1) ⟨w, k⟩) (fun r s e => ?_)
  obtain ⟨-, e1, e2, e3, e4⟩ := e
  refine Run.mono (P_X8_crossedSet (v := τ 1) (q := sCt (τ 1)) isC_5 ⟨⟨w, e2, e3⟩, by constructor <;> omega⟩) (fun r2 s2 f => ?_)
  have eD : kset (sGat (τ 1) (sCt (τ 1)) (τ 1 7 % 12) (τ 1 2) 0) (τ 1 2).toNat = sDooms (τ 1) := kset_ext _ (fun k hk => gat_doom ⟨by omega, by omega⟩)
  rw [f.1, f.2, eD]
  exact ⟨rfl, fX_st (fX_sky e1)⟩
theorem O_lulls {G G' : Kg} {σ τ : Kmem} {l1 : Int} (h : R σ τ) (r1 : rI l1) : Op G G' M_X11_lulls M_X12_lulls 1 3 [vA G 0, vI l1] [vA G' 0, vI l1] σ τ := by
  obtain ⟨w, k⟩ := R_w h
  have w1 := wf_h w
  by_cases c : sKt (τ 1) l1
  · refine Op_pure (kset (fun i => ¬ sBorne (τ 1) l1 i) 12 : Int) 0 h (by decide) (S_X11_lulls (v := τ 1) ⟨⟨w, k, r1⟩, fun _ => ?_, fun n => absurd c n⟩) (S_X12_lulls ⟨⟨r1, w⟩, fun _ => ?_, fun n => absurd c n⟩)
    · generalize hQ : (fun (r : Int) (s : Kmem) => r = (kset (fun i => ¬ sBorne (τ 1) l1 i) 12 : Int) ∧ fX s (kup σ 0 0 0)) = Q
      refine kloopS (E := fun i a => E_X11_lulls_21 G l1 a i σ Q) (p := fun i => ¬ sBorne (τ 1) l1 i) (N := 12) (by omega) (fun i a hi ha he hp hn hn2 => S_X11_lulls_21 ⟨by omega, fun q => ?_, fun q => ?_⟩)
      · rw [← hQ]; exact ⟨by rw [he (by omega)], fX.refl⟩
      · have K := (k.2.1 i (by omega) q).2
        have K2 := (k.2.2.1 l1 c.1 c.2).2.1.2.1
        have wk := w.2.1 i (by omega) q
        have wk2 := w.2.2.1 l1 c.1 c.2
        have c1 := c.1
        have c2 := c.2
        rw [K, K2]
        exact ⟨by omega, by omega, by constructor <;> omega, by constructor <;> omega, fun z => hn2 (by omega) (fun y => y z), fun z => hp (by omega) (fun y => by unfold sBorne at y; omega)⟩
    · generalize hQ : (fun (r : Int) (t : Kmem) => r = (kset (fun i => ¬ sBorne (τ 1) l1 i) 12 : Int) ∧ fM t (kup τ 0 2 0)) = Q
      refine kloopS (E := fun i a => E_X12_lulls_18 G' l1 a i τ Q) (p := fun i => ¬ sBorne (τ 1) l1 i) (N := 12) (by omega) (fun i a hi ha he hp hn hn2 => S_X12_lulls_18 ⟨by omega, fun q => ?_, fun q => ⟨⟨w, c, by omega, q⟩, fun z => hp (by omega) z, fun z => hn (by omega) (fun y => y z)⟩⟩)
      rw [← hQ]; exact ⟨by rw [he (by omega)], fM.refl⟩
  · refine Op_pure (-1) 1 h (by decide) (S_X11_lulls (v := τ 1) ?_) (S_X12_lulls ?_)
    all_goals (repeat' (with_reducible first | assumption | intro _ | refine And.intro ?_ ?_))
    all_goals (first | omega | contradiction | rfl | exact fX.refl | exact fM.refl | exact kb_0 (by decide) | exact kb_1 rfl | trivial | skip)
