/-! living seasons: the class -/
abbrev lfA (c x y : Int) : Prop := ctyC c y ∨ (58 ≤ y ∧ y ≤ 63) ∨ y = x ∨ y = x + 1
def lRel (σ : Kmem) (x c s : Int) (τ : Kmem) (k : Int) : Prop := (kco σ c (τ 1) ∧ kpr σ s (τ 1)) ∧ (σ x 0 = 1 ∧ σ x 1 = τ 0 36 ∧ σ x 2 = τ 19 0 ∧ σ x 3 = τ 19 1 ∧ σ x 4 = τ 19 2 ∧ σ x 5 = τ 19 3 ∧ σ x 6 = τ 19 4 ∧ σ x 7 = τ 0 35) ∧ rRel (τ 1) (σ (x + 1)) (τ 18) k
theorem rRel_eq {u v r lp : Int → Int} {k : Int} (e : pEq u v) (hL : v 8 ≤ 60) (hk : k ≤ v 8) (h : rRel v r lp k) : rRel u r lp k := by
  intro o a b c d
  rw [e.2 _ (by omega) (by omega)] at c d
  exact h o a b c d
theorem rRel_same {v r lp : Int → Int} {k nx : Int} (p : pwf v) (hk : 0 ≤ k ∧ k < v 8) (h : rRel v r lp k) (h21 : (v (150 + 6 * k)) ≠ 21) (hn : nx = k + 1 ∨ (2024 ≤ (v (150 + 6 * k)) ∧ nx = (v (150 + 6 * k + 4)) + 1)) : rRel v r lp nx := by
  intro o a b c d
  by_cases e : o = k
  · subst e; exact absurd d h21
  by_cases ok : o < k
  · rcases hn with rfl | ⟨h24, rfl⟩
    · exact h o a ok (by omega) d
    · have ln := (p.2.1 k hk.1 hk.2).2.2.2.2.2.2.2.1 (Or.inr h24)
      exact h o a ok (by omega) d
  · rcases hn with rfl | ⟨h24, rfl⟩
    · omega
    · have ln := (p.2.1 k hk.1 hk.2).2.2.2.2.2.2.2.1 (Or.inr h24)
      by_cases eo : o = (v (150 + 6 * k + 4))
      · rw [← eo] at ln; omega
      · have := p.2.2 k o hk.1 (by omega) (by omega) (Or.inr h24) (Or.inl d) (by omega)
        omega
theorem rRel_loop {v r lp : Int → Int} {k n : Int} (h : rRel v r lp k) : rRel v (ku r k n) (ku lp k (n - 1)) (k + 1) := by
  intro o a b c d
  by_cases e : o = k
  · subst e; rw [ku_eq, ku_eq]; omega
  · rw [ku_ne e, ku_ne e]; exact h o a (by omega) (by omega) d
theorem sAft_f {τ : Kmem} {k : Int} (h : sLv τ k) (hk : k < τ 1 8) : sAft τ k 19 0 = τ 19 0 + kb ((sDo τ k).1 = 0) ∧ (∀ j, j ≠ 0 → sAft τ k 19 j = (sDo τ k).2 19 j) ∧ sAft τ k 0 35 = (sDo τ k).2 0 35 ∧ (((τ 1) (150 + 6 * k)) = 21 → sAft τ k 18 = ku (τ 18) k (τ 1 (150 + 6 * k + 1) - 1)) ∧ (((τ 1) (150 + 6 * k)) ≠ 21 → sAft τ k 18 = τ 18) := by
  have ok := sDo_ok h hk
  have p8 := h.1.2.1.1
  have k0 := h.2.1
  have m1 : sMis τ k 1 = (sDo τ k).2 1 := kup_o (by omega)
  have e0 : sMis τ k 1 (150 + 6 * k) = τ 1 (150 + 6 * k) := by rw [m1]; exact ok.2.1.2.2.2.2 _ (by omega) (by omega)
  have e1 : sMis τ k 1 (150 + 6 * k + 1) = τ 1 (150 + 6 * k + 1) := by rw [m1]; exact ok.2.1.2.2.2.2 _ (by omega) (by omega)
  have m18 : sMis τ k 18 = τ 18 := (kup_o (by omega)).trans ok.2.2.1.1
  have m35 : sMis τ k 0 35 = (sDo τ k).2 0 35 := kup_x (by omega)
  have m0 : sMis τ k 19 0 = τ 19 0 + kb ((sDo τ k).1 = 0) := kup_at
  have mj : ∀ j, j ≠ 0 → sMis τ k 19 j = (sDo τ k).2 19 j := fun j hj => kup_j hj
  unfold sAft
  rw [e0, e1]
  by_cases q : ((τ 1) (150 + 6 * k)) = 21
  · rw [kif_t q]
    refine ⟨by rw [kup_x (by omega)]; exact m0, fun j hj => by rw [kup_x (by omega)]; exact mj j hj, by rw [kup_x (by omega)]; exact m35, fun _ => by rw [kup_k, kst_eq, m18], fun n => absurd q n⟩
  · rw [kif_f q]
    exact ⟨m0, mj, m35, fun y => absurd y q, fun _ => m18⟩
theorem lRel_mk {σ t τ : Kmem} {x c s k nx : Int} (h : sLv τ k) (hk : k < τ 1 8) (h22 : ((τ 1) (150 + 6 * k)) ≠ 22) (R : rRel (τ 1) (σ (x + 1)) (τ 18) k)
    (q1 : kco t c ((sDo τ k).2 1)) (q2 : kpr t s (τ 1)) (q3 : t x 0 = 1) (q4 : t x 1 = τ 0 36) (q5 : t x 2 = τ 19 0 + kb ((sDo τ k).1 = 0)) (q6 : t x 3 = (sDo τ k).2 19 1) (q7 : t x 4 = (sDo τ k).2 19 2) (q8 : t x 5 = (sDo τ k).2 19 3) (q9 : t x 6 = τ 19 4) (q10 : t x 7 = (sDo τ k).2 0 35)
    (q11 : ((τ 1) (150 + 6 * k)) = 21 → t (x + 1) = ku (σ (x + 1)) k (τ 1 (150 + 6 * k + 1))) (q12 : ((τ 1) (150 + 6 * k)) ≠ 21 → t (x + 1) = σ (x + 1)) (hn : nx = k + 1 ∨ (2024 ≤ ((τ 1) (150 + 6 * k)) ∧ nx = ((τ 1) (150 + 6 * k + 4)) + 1)) : lRel t x c s (sAft τ k) nx := by
  have ok := sAft_ok h hk
  have f := sAft_f h hk
  have p8 := h.1.2.1.1
  have k0 := h.2.1
  have eq := ok.2.1.2.2.2
  have nr : nx ≤ τ 1 8 := by
    rcases hn with rfl | ⟨h24, rfl⟩
    · omega
    · have ln := (h.1.2.1.2.1 k k0.1 hk).2.2.2.2.2.2.2.1 (Or.inr h24); omega
  refine ⟨⟨by rw [ok.2.2.2.2.2.1]; exact q1, kpr_eq q2 eq p8.2⟩, ⟨q3, by rw [q4, ok.2.2.2.2.1], by rw [q5, f.1], by rw [q6, f.2.1 1 (by omega)], by rw [q7, f.2.1 2 (by omega)], by rw [q8, f.2.1 3 (by omega)], by rw [q9, ok.2.2.2.2.2.2], by rw [q10, f.2.2.1]⟩, rRel_eq eq p8.2 nr ?_⟩
  by_cases q : ((τ 1) (150 + 6 * k)) = 21
  · rw [f.2.2.2.1 q, q11 q]
    have e : nx = k + 1 := by rcases hn with e | ⟨e, -⟩ <;> omega
    rw [e]; exact rRel_loop R
  · rw [f.2.2.2.2 q, q12 q]
    exact rRel_same h.1.2.1 ⟨k0.1, hk⟩ R q hn
theorem kb_ne {P : Prop} : kb (kb P = 0) = kb (¬ P) := kb_iff ⟨fun h => kb_f h, fun h => kb_0 h⟩
theorem isCS {c s : Int} (hc : isC c) (hs : isS s) : c + 26 ≤ s ∨ s + 7 ≤ c := by
  rcases hc with rfl | rfl | rfl | rfl | rfl <;> rcases hs with rfl | rfl | rfl | rfl | rfl <;> omega
/-- what is known as a line is done -/
def lCx (σ τ : Kmem) (x c s k : Int) : Prop := (isLf x ∧ isC c ∧ isS s) ∧ sLv τ k ∧ k < τ 1 8 ∧ lRel σ x c s τ k
def lPo (σ τ : Kmem) (x c s k : Int) (y : Int) (t : Kmem) : Prop := kfm (lfA c x) t σ ∧ ((τ 1 (150 + 6 * k)) = 23 → y = τ 1 8 ∧ t = σ) ∧ ((τ 1 (150 + 6 * k)) ≠ 23 → y = sNxt (sAft τ k 1) k ∧ lRel t x c s (sAft τ k) y)
theorem lCx_pr {σ τ t : Kmem} {x c s k : Int} (p : lCx σ τ x c s k) (f : kfm (lfA c x) t σ) : kpr t s (τ 1) := by
  obtain ⟨⟨hx, hc, hs⟩, -, -, ⟨-, pr⟩, -, -⟩ := p
  have lx := isLf_r hx
  have ls := isS_q hs
  have cs := isCS hc hs
  refine kpr_kfm pr f (fun y a b z => ?_)
  rcases z with z | z | z | z
  · have z1 := z.1; have z2 := z.2; omega
  · omega
  · omega
  · omega
theorem lPo_mk {σ τ t : Kmem} {x c s k y : Int} (p : lCx σ τ x c s k) (n : (τ 1 (150 + 6 * k)) ≠ 23) (h22 : (τ 1 (150 + 6 * k)) ≠ 22) (f : kfm (lfA c x) t σ)
    (q1 : kco t c ((sDo τ k).2 1)) (q3 : t x 0 = 1) (q4 : t x 1 = τ 0 36) (q5 : t x 2 = τ 19 0 + kb ((sDo τ k).1 = 0)) (q6 : t x 3 = (sDo τ k).2 19 1) (q7 : t x 4 = (sDo τ k).2 19 2) (q8 : t x 5 = (sDo τ k).2 19 3) (q9 : t x 6 = τ 19 4) (q10 : t x 7 = (sDo τ k).2 0 35)
    (q11 : (τ 1 (150 + 6 * k)) = 21 → t (x + 1) = ku (σ (x + 1)) k (τ 1 (150 + 6 * k + 1))) (q12 : (τ 1 (150 + 6 * k)) ≠ 21 → t (x + 1) = σ (x + 1)) (hn : y = k + 1 ∨ (2024 ≤ (τ 1 (150 + 6 * k)) ∧ y = (τ 1 (150 + 6 * k + 4)) + 1)) (hy : y = sNxt (sAft τ k 1) k) : lPo σ τ x c s k y t :=
  ⟨f, fun e => absurd e n, fun _ => ⟨hy, lRel_mk p.2.1 p.2.2.1 h22 p.2.2.2.2.2 q1 (lCx_pr p f) q3 q4 q5 q6 q7 q8 q9 q10 q11 q12 hn⟩⟩
theorem lNx {τ : Kmem} {k : Int} (h : sLv τ k) (hk : k < τ 1 8) (h2 : (τ 1 (150 + 6 * k)) < 2000) : k + 1 = sNxt (sAft τ k 1) k := by
  have p8 := h.1.2.1.1
  have k0 := h.2.1
  have ka := sAft_ok h hk
  have a8 : sAft τ k 1 (150 + 6 * k) = (τ 1 (150 + 6 * k)) := ka.2.1.2.2.2.2 _ (by omega) (by omega)
  exact (kif_f (fun y => by have := y.1; omega)).symm
theorem lfx {c x : Int} {t : Kmem} {j y : Int} : kfm (lfA c x) (kup t x j y) t := kfm_kup (Or.inr (Or.inr (Or.inl rfl)))
/-- missed: nothing is done -/
theorem lPo_miss {σ τ : Kmem} {x c s k d : Int} (p : lCx σ τ x c s k) (n : (τ 1 (150 + 6 * k)) < 21) (eD : sDo τ k = (0, kup τ 0 35 d)) {t : Kmem} (et : t = kup (kup σ x 7 d) x 2 (σ x 2 + 1)) : lPo σ τ x c s k (k + 1) t := by
  have p' := p
  obtain ⟨⟨hx, hc, hs⟩, h, hk, ⟨kk, pr⟩, ⟨x0, x1, x2, x3, x4, x5, x6, x7⟩, R⟩ := p'
  have lx := isLf_r hx
  have lc := isC_q hc
  have w := h.1.1
  have fr : kfm (lfA c x) t σ := by rw [et]; exact lfx.trans lfx
  refine lPo_mk p (by omega) (by omega) fr ?_ ?_ ?_ ?_ ?_ ?_ ?_ ?_ ?_ (fun e => by omega) (fun _ => ?_) (Or.inl rfl) (lNx h hk (by omega))
  · rw [eD, et]; dsimp only
    rw [kup_o (a := 0) (by omega)]
    exact kco_kfm w kk (kfm_at.trans kfm_at) (fun y a b z => by omega)
  · rw [et, kup_j (by omega), kup_j (by omega)]; exact x0
  · rw [et, kup_j (by omega), kup_j (by omega)]; exact x1
  · rw [et, kup_at, x2, eD, kb_1 rfl]
  · rw [et, kup_j (by omega), kup_j (by omega), x3, eD]; dsimp only; rw [kup_x (by omega)]
  · rw [et, kup_j (by omega), kup_j (by omega), x4, eD]; dsimp only; rw [kup_x (by omega)]
  · rw [et, kup_j (by omega), kup_j (by omega), x5, eD]; dsimp only; rw [kup_x (by omega)]
  · rw [et, kup_j (by omega), kup_j (by omega)]; exact x6
  · rw [et, kup_j (by omega), kup_at, eD]; dsimp only; rw [kup_at]
  · rw [et, kup_o (by omega), kup_o (by omega)]
theorem kup_id {σ : Kmem} {x j : Int} : kup σ x j (σ x j) = σ := by rw [kup_k, ku_self, kst_id]
theorem lPo_miss0 {σ τ : Kmem} {x c s k : Int} (p : lCx σ τ x c s k) (n : (τ 1 (150 + 6 * k)) < 21) (eD : sDo τ k = (0, τ)) {t : Kmem} (et : t = kup σ x 2 (σ x 2 + 1)) : lPo σ τ x c s k (k + 1) t := by
  refine lPo_miss (d := τ 0 35) p n (by rw [kup_id]; exact eD) ?_
  rw [et, ← p.2.2.2.2.1.2.2.2.2.2.2.2, kup_id]
theorem lC_hours {G : Kg} {σ τ : Kmem} {x c s k : Int} (p : lCx σ τ x c s k) (o15 : ((τ 1) (150 + 6 * k)) = 15) : rI (τ 1 7 + τ 1 (150 + 6 * k + 1)) ∧ (τ 1 7 + τ 1 (150 + 6 * k + 1) ≤ 9999 → ∀ m6 : Kmem, m6 = kup σ x 3 (σ x 3 + τ 1 (150 + 6 * k + 1)) → Run G WX M_X0_goBy 4 0 0 [vA G c, vA G 58, vI (τ 1 (150 + 6 * k + 1))] m6 (fun r9 s9 => Run G WX M_J6_bitCount_0f7a4 0 0 0 [vI r9] s9 (fun r10 s10 => ∀ m12 : Kmem, m12 = kup s10 x 5 (m6 x 5 + r10) → lPo σ τ x c s k (k + 1) m12))) ∧ (9999 < τ 1 7 + τ 1 (150 + 6 * k + 1) → ∀ m14 : Kmem, m14 = kup σ x 2 (σ x 2 + 1) → lPo σ τ x c s k (k + 1) m14) := by
  have p' := p
  obtain ⟨⟨hx, hc, hs⟩, h, hk, ⟨kk, pr⟩, ⟨x0, x1, x2, x3, x4, x5, x6, x7⟩, R⟩ := p'
  have lx := isLf_r hx
  have lc := isC_q hc
  have w := h.1.1
  have k0 := h.2.1
  have h7 := h.1.2.2
  have w1 := wf_h w
  have l2 := (h.1.2.1.2.1 k k0.1 hk).2.1 o15
  have eD : sDo τ k = (kb (τ 1 7 + τ 1 (150 + 6 * k + 1) ≤ 9999), kif (τ 1 7 + τ 1 (150 + 6 * k + 1) ≤ 9999) (kup (kup (kst τ 1 (sHours (τ 1) (τ 1 (150 + 6 * k + 1)).toNat)) 19 3 (τ 19 3 + sBits (τ 1) (τ 1 (150 + 6 * k + 1)).toNat)) 19 1 (τ 19 1 + τ 1 (150 + 6 * k + 1))) τ) := kif_t o15
  generalize τ 1 (150 + 6 * k + 1) = n at *
  refine ⟨by omega, fun le m6 e6 => ?_, fun gt m14 e14 => lPo_miss0 p (by omega) (by rw [eD, kif_f (by omega), kb_0 (by omega)]) e14⟩
  rw [kif_t le] at eD
  have c6 : kco m6 c (τ 1) := by rw [e6]; exact kco_kfm w kk kfm_at (fun y a b z => by omega)
  refine Run.mono (P_X0_goBy hc ⟨w, c6, by omega, by omega⟩) (fun r9 s9 z => ?_)
  obtain ⟨rfl, f9, k9⟩ := z
  have hu := sHSet_u w n.toNat (by omega)
  have h64 : kset (fun j => sHours (τ 1) n.toNat (34 + 9 * j + 8) = 1 ∧ τ 1 (34 + 9 * j + 8) ≠ 1) (τ 1 2).toNat < 64 := Nat.lt_of_lt_of_le (kset_lt _) (Nat.pow_le_pow_right (n := 2) (by decide) (by omega : (τ 1 2).toNat ≤ 6))
  refine Run.mono (P_J6_bitCount_0f7a4 (by rw [hu.1]; omega)) (fun r10 s10 z => ?_)
  rw [z.1, z.2, hu.2.1]
  intro m12 e12
  have ok := sHours_ok w n.toNat (by omega)
  clear z hu h64 l2 w1 h7
  have nx9 : ∀ y, y = x ∨ y = x + 1 → s9 y = m6 y := fun y hy => f9 y (fun z => by
    rcases z with z | z
    · have z1 := z.1; have z2 := z.2; omega
    · omega)
  have m6x : ∀ j, j ≠ 3 → m6 x j = σ x j := fun j hj => by rw [e6]; exact kup_j hj
  have m63 : m6 x 3 = σ x 3 + n := by rw [e6]; exact kup_at
  have nx0 := nx9 x (Or.inl rfl)
  have nx1 := nx9 (x + 1) (Or.inr rfl)
  have fr : kfm (lfA c x) m12 σ := by
    rw [e12]
    refine lfx.trans ((f9.wide (fun y z => ?_)).trans (by rw [e6]; exact lfx))
    rcases z with z | z
    · exact Or.inl z
    · exact Or.inr (Or.inl z)
  have k12 : kco m12 c (sHours (τ 1) n.toNat) := by rw [e12]; exact kco_kfm ok.1 k9 kfm_at (fun y a b z => by omega)
  refine lPo_mk p (by omega) (by omega) fr ?_ ?_ ?_ ?_ ?_ ?_ ?_ ?_ ?_ (fun e => by omega) (fun _ => ?_) (Or.inl rfl) (lNx h hk (by omega))
  · rw [eD]; dsimp only
    rw [kup_o (by decide), kup_o (by decide), kst_eq]; exact k12
  · rw [e12, kup_j (by decide), nx0, m6x 0 (by decide)]; exact x0
  · rw [e12, kup_j (by decide), nx0, m6x 1 (by decide)]; exact x1
  · rw [e12, kup_j (by decide), nx0, m6x 2 (by decide), x2, eD]; dsimp only
    rw [kb_ne, kb_0 (fun n => n le)]; omega
  · rw [e12, kup_j (by decide), nx0, m63, x3, eD]; dsimp only
    rw [kup_at]
  · rw [e12, kup_j (by decide), nx0, m6x 4 (by decide), x4, eD]; dsimp only
    rw [kup_j (by decide), kup_j (by decide), kst_ne (by decide)]
  · rw [e12, kup_at, m6x 5 (by decide), x5, eD]; dsimp only
    rw [kup_j (by decide), kup_at]
  · rw [e12, kup_j (by decide), nx0, m6x 6 (by decide)]; exact x6
  · rw [e12, kup_j (by decide), nx0, m6x 7 (by decide), x7, eD]; dsimp only
    rw [kup_x (by decide), kup_x (by decide), kst_ne (by decide)]
  · rw [e12, kup_o (by omega), nx1, e6, kup_o (by omega)]
theorem lC_walk {G : Kg} {σ σ' τ : Kmem} {x c s k S d : Int} (p : lCx σ τ x c s k) (es : σ' = kup σ x 7 d) (hS : 0 ≤ S ∧ S < 5) (kt : sKt (τ 1) (τ 1 (150 + 6 * k + 1))) (n21 : ((τ 1) (150 + 6 * k)) < 21)
    (eD : sDo τ k = (kb (sMay (τ 1) (τ 1 (150 + 6 * k + 1)) S), kif (sMay (τ 1) (τ 1 (150 + 6 * k + 1)) S) (kup (kst (kup τ 0 35 d) 1 (sWalk (τ 1) (τ 1 (150 + 6 * k + 1)) S)) 19 2 (τ 19 2 + 1)) (kup τ 0 35 d))) :
    Run G WX M_X4_stepOrMiss 3 0 0 [vA G x, vA G c, vI (τ 1 (150 + 6 * k + 1)), vI S] σ' (fun _ t => lPo σ τ x c s k (k + 1) t) := by
  have p' := p
  obtain ⟨⟨hx, hc, hs⟩, h, hk, ⟨kk, pr⟩, ⟨x0, x1, x2, x3, x4, x5, x6, x7⟩, R⟩ := p'
  have lx := isLf_r hx
  have lc := isC_q hc
  have w := h.1.1
  have cd : kco σ' c (τ 1) := by rw [es]; exact kco_kfm w kk kfm_at (fun y a b z => by omega)
  refine Run.mono (P_X4_stepOrMiss hx hc ⟨w, cd, kt, hS⟩) (fun y t z => ?_)
  obtain ⟨-, z1, z2⟩ := z
  have sx : ∀ j, j ≠ 7 → σ' x j = σ x j := fun j hj => by rw [es]; exact kup_j hj
  have s7 : σ' x 7 = d := by rw [es]; exact kup_at
  have s1 : σ' (x + 1) = σ (x + 1) := by rw [es]; exact kup_o (by omega)
  by_cases m : sMay (τ 1) (τ 1 (150 + 6 * k + 1)) S
  · obtain ⟨u, fu, ku', rfl⟩ := z1 m
    rw [kif_t m, kb_1 m] at eD
    have ok := sWalk_ok w kt m
    have fr : kfm (lfA c x) (kup u x 4 (σ' x 4 + 1)) σ := lfx.trans ((fu.wide (fun y z => Or.inl z)).trans (by rw [es]; exact lfx))
    have ux : ∀ y, y = x ∨ y = x + 1 → u y = σ' y := fun y hy => fu y (fun z => by have z1 := z.1; have z2 := z.2; omega)
    have u0 := ux x (Or.inl rfl)
    have u1 := ux (x + 1) (Or.inr rfl)
    have kk4 : kco (kup u x 4 (σ' x 4 + 1)) c (sWalk (τ 1) (τ 1 (150 + 6 * k + 1)) S) := kco_kfm ok.1 ku' kfm_at (fun y a b z => by omega)
    refine lPo_mk p (by omega) (by omega) fr ?_ ?_ ?_ ?_ ?_ ?_ ?_ ?_ ?_ (fun e => by omega) (fun _ => ?_) (Or.inl rfl) (lNx h hk (by omega))
    · rw [eD]; dsimp only
      rw [kup_o (by decide), kst_eq]; exact kk4
    · rw [kup_j (by decide), u0, sx 0 (by decide)]; exact x0
    · rw [kup_j (by decide), u0, sx 1 (by decide)]; exact x1
    · rw [kup_j (by decide), u0, sx 2 (by decide), x2, eD]; dsimp only
      rw [kb_0 (by decide)]; omega
    · rw [kup_j (by decide), u0, sx 3 (by decide), x3, eD]; dsimp only
      rw [kup_j (by decide), kst_ne (by decide), kup_x (by decide)]
    · rw [kup_at, sx 4 (by decide), x4, eD]; dsimp only
      rw [kup_at]
    · rw [kup_j (by decide), u0, sx 5 (by decide), x5, eD]; dsimp only
      rw [kup_j (by decide), kst_ne (by decide), kup_x (by decide)]
    · rw [kup_j (by decide), u0, sx 6 (by decide)]; exact x6
    · rw [kup_j (by decide), u0, s7, eD]; dsimp only
      rw [kup_x (by decide), kst_ne (by decide), kup_at]
    · rw [kup_o (by omega), u1, s1]
  · rw [kif_f m, kb_0 m] at eD
    refine lPo_miss p n21 eD ?_
    rw [z2 m, es, kup_j (by decide)]
theorem lC_cut {G : Kg} {σ τ : Kmem} {x c s k b : Int} (p : lCx σ τ x c s k) (hb : b = 0 ∨ b = 1) (kt : sKt (τ 1) (τ 1 (150 + 6 * k + 1))) (n21 : ((τ 1) (150 + 6 * k)) < 21)
    (eD : sDo τ k = (kb (τ 1 (34 + 9 * τ 1 (150 + 6 * k + 1) + 8) ≠ b), kst τ 1 (ku (τ 1) (34 + 9 * τ 1 (150 + 6 * k + 1) + 8) b))) :
    Run G WX M_X4_putCut 0 0 0 [vA G x, vA G (c + 6 + τ 1 (150 + 6 * k + 1)), vI b] σ (fun _ t => lPo σ τ x c s k (k + 1) t) := by
  have p' := p
  obtain ⟨⟨hx, hc, hs⟩, h, hk, ⟨kk, pr⟩, ⟨x0, x1, x2, x3, x4, x5, x6, x7⟩, R⟩ := p'
  have lx := isLf_r hx
  have lc := isC_q hc
  have w := h.1.1
  have w2 := (wf_h w).2.1
  have kt1 := kt.1
  have kt2 := kt.2
  refine Run.mono (P_X4_putCut hx hc ⟨w, kk, kt, hb⟩) (fun y t z => ?_)
  obtain ⟨-, rfl⟩ := z
  have c1 : kco (kup σ x 2 (σ x 2 + kb (τ 1 (34 + 9 * τ 1 (150 + 6 * k + 1) + 8) = b))) c (τ 1) := kco_kfm w kk kfm_at (fun y a b z => by omega)
  have c2 := kco_cut (k := τ 1 (150 + 6 * k + 1)) (x := b) w c1 kt
  have fr : kfm (lfA c x) (kup (kup σ x 2 (σ x 2 + kb (τ 1 (34 + 9 * τ 1 (150 + 6 * k + 1) + 8) = b))) (c + 6 + τ 1 (150 + 6 * k + 1)) 9 b) σ := (kfm_kup (Or.inl ⟨by omega, by omega⟩)).trans lfx
  have nx : x ≠ c + 6 + τ 1 (150 + 6 * k + 1) ∧ x + 1 ≠ c + 6 + τ 1 (150 + 6 * k + 1) := by omega
  generalize c + 6 + τ 1 (150 + 6 * k + 1) = C at *
  refine lPo_mk p (by omega) (by omega) fr ?_ ?_ ?_ ?_ ?_ ?_ ?_ ?_ ?_ (fun e => by omega) (fun _ => ?_) (Or.inl rfl) (lNx h hk (by omega))
  · rw [eD]; dsimp only; rw [kst_eq]; exact c2
  · rw [kup_x nx.1, kup_j (by decide)]; exact x0
  · rw [kup_x nx.1, kup_j (by decide)]; exact x1
  · rw [kup_x nx.1, kup_at, x2, eD]; dsimp only
    rw [kb_ne]
    exact congrArg (fun z => τ 19 0 + z) (kb_iff ⟨fun y n => n y, fun y => Classical.byContradiction y⟩)
  · rw [kup_x nx.1, kup_j (by decide), x3, eD]; dsimp only; rw [kst_ne (by decide)]
  · rw [kup_x nx.1, kup_j (by decide), x4, eD]; dsimp only; rw [kst_ne (by decide)]
  · rw [kup_x nx.1, kup_j (by decide), x5, eD]; dsimp only; rw [kst_ne (by decide)]
  · rw [kup_x nx.1, kup_j (by decide)]; exact x6
  · rw [kup_x nx.1, kup_j (by decide), x7, eD]; dsimp only; rw [kst_ne (by decide)]
  · rw [kup_o nx.2, kup_o (by omega)]
theorem lPo_no {σ τ t : Kmem} {x c s k nx : Int} (p : lCx σ τ x c s k) (n : ((τ 1) (150 + 6 * k)) ≠ 23) (h22 : ((τ 1) (150 + 6 * k)) ≠ 22) (n21 : ((τ 1) (150 + 6 * k)) ≠ 21) (eD : sDo τ k = (1, τ)) (ft : kfm sky1 t σ) (hn : nx = k + 1 ∨ (2024 ≤ ((τ 1) (150 + 6 * k)) ∧ nx = ((τ 1) (150 + 6 * k + 4)) + 1)) (hy : nx = sNxt (sAft τ k 1) k) : lPo σ τ x c s k nx t := by
  have p' := p
  obtain ⟨⟨hx, hc, hs⟩, h, hk, ⟨kk, pr⟩, ⟨x0, x1, x2, x3, x4, x5, x6, x7⟩, R⟩ := p'
  have lx := isLf_r hx
  have lc := isC_q hc
  have w := h.1.1
  have fr : kfm (lfA c x) t σ := ft.wide (fun y z => Or.inr (Or.inl (by omega)))
  have tx : t x = σ x := ft x (fun z => by omega)
  have t1 : t (x + 1) = σ (x + 1) := ft _ (fun z => by omega)
  refine lPo_mk p n h22 fr ?_ ?_ ?_ ?_ ?_ ?_ ?_ ?_ ?_ (fun e => absurd e n21) (fun _ => t1) hn hy
  · rw [eD]; exact kco_kfm w kk ft (fun y a b z => by omega)
  · rw [tx]; exact x0
  · rw [tx]; exact x1
  · rw [tx, x2, eD]; dsimp only; rw [kb_0 (by decide)]; omega
  · rw [tx, x3, eD]
  · rw [tx, x4, eD]
  · rw [tx, x5, eD]
  · rw [tx]; exact x6
  · rw [tx, x7, eD]
theorem sDo_1 {τ : Kmem} {k : Int} (h : 20 ≤ ((τ 1) (150 + 6 * k))) : sDo τ k = (1, τ) := by
  unfold sDo; rw [kif_f (by omega), kif_f (by omega), kif_f (by omega), kif_f (by omega), kif_f (by omega)]
theorem kKd_of {o : Int} (h : (15 ≤ o ∧ o ≤ 23 ∧ o ≠ 20) ∨ (2024 ≤ o ∧ o ≤ 2026)) (h22 : o ≠ 22) : rI (kKd o) ∧ (kKd o = 1 → o = 15) ∧ (kKd o = 2 → o = 16) ∧ (kKd o = 3 → o = 17) ∧ (kKd o = 4 → o = 18) ∧ (kKd o = 5 → o = 19) ∧ (kKd o = 6 → 2024 ≤ o) ∧ (kKd o = 7 → o = 21) ∧ (kKd o < 1 ∨ 7 < kKd o → o = 23) ∧ kKd o ≠ 9 := by
  have : o = 15 ∨ o = 16 ∨ o = 17 ∨ o = 18 ∨ o = 19 ∨ o = 21 ∨ o = 23 ∨ o = 2024 ∨ o = 2025 ∨ o = 2026 := by omega
  rcases this with rfl | rfl | rfl | rfl | rfl | rfl | rfl | rfl | rfl | rfl <;> (unfold kKd; decide)
theorem P_X4_behindStep {G : Kg} {σ τ : Kmem} {x s k c : Int} (p : lCx σ τ x c s k) : Run G WX M_X4_behindStep 5 0 0 [vA G x, vA G s, vI k, vA G c, vA G 58] σ (fun y t => lPo σ τ x c s k y t) := by
  have p' := p
  obtain ⟨⟨hx, hc, hs⟩, h, hk, ⟨kk, pr⟩, ⟨x0, x1, x2, x3, x4, x5, x6, x7⟩, R⟩ := p'
  have k0 := h.2.1
  have w := h.1.1
  have pw := h.1.2.1
  have p8 := pw.1
  have kh := kco_h kk
  have ln := pw.2.1 k k0.1 hk
  have n22 : ((τ 1) (150 + 6 * k)) ≠ 22 := fun e => h.2.2.1 ⟨hk, e⟩
  have pl := pr.2.2.2 k k0.1 hk
  obtain ⟨l1, l2, l3, l4, l5, l6, l7, l8, l9⟩ := ln
  obtain ⟨q1, q2, q3, q4, q5, q6⟩ := pl
  have kd := kKd_of l1 n22
  refine S_X4_behindStep hx hs hc ?_
  rw [q1]
  refine ⟨by omega, by omega, by omega, kd.1, fun e => ?_, fun e => ?_, fun e => ?_, fun e => ?_, fun e => ?_, fun e => ?_, fun e => ?_, fun e => ?_⟩
  · have o := kd.2.1 e
    rw [q4 (Or.inl o), kh.2.1]
    exact lC_hours p o
  · have o := kd.2.2.1 e
    have l4 := l4 o
    rw [q3 (by omega), q5 (Or.inl o)]
    refine Run.mono (lC_walk (d := σ x 7) p kup_id.symm (by omega) (l3 (by omega)) (by omega) ?_) (fun y t z => z)
    rw [x7, kup_id]
    unfold sDo; rw [kif_f (by omega), kif_t o]
  · have o := kd.2.2.2.1 e
    have kt := l3 (by omega)
    have w2 := (wf_h w).2.1
    rw [q3 (by omega)]
    refine ⟨⟨kt.1, by have := kt.2; omega⟩, Run.mono (lC_cut p (Or.inr rfl) kt (by omega) ?_) (fun y t z => z)⟩
    unfold sDo; rw [kif_f (by omega), kif_f (by omega), kif_t o]
  · have o := kd.2.2.2.2.1 e
    have kt := l3 (by omega)
    have w2 := (wf_h w).2.1
    rw [q3 (by omega)]
    refine ⟨⟨kt.1, by have := kt.2; omega⟩, Run.mono (lC_cut p (Or.inl rfl) kt (by omega) ?_) (fun y t z => z)⟩
    unfold sDo; rw [kif_f (by omega), kif_f (by omega), kif_f (by omega), kif_t o]
  · have o := kd.2.2.2.2.2.1 e
    have hd := h.2.2.2.1
    rw [q3 (by omega), kup_at, x7]
    refine ⟨⟨by omega, by omega⟩, ⟨by omega, by omega⟩, ⟨by omega, by omega⟩, Run.mono (lC_walk (d := dr1 (τ 0 35)) p rfl (by omega) (l3 (by omega)) (by omega) ?_) (fun y t z => z)⟩
    unfold sDo; rw [kif_f (by omega), kif_f (by omega), kif_f (by omega), kif_f (by omega), kif_t o]
  · have o := kd.2.2.2.2.2.2.1 e
    have eD := sDo_1 (τ := τ) (k := k) (by omega)
    have eA : sAft τ k 1 = τ 1 := by rw [(sAft_ok h hk).2.2.2.2.2.1, eD]
    refine Run.mono (P_X4_holds hx hs hc ⟨w, kk, pw, pr, ⟨k0.1, hk⟩, o⟩) (fun y t z => ?_)
    obtain ⟨rfl, ft⟩ := z
    have ls := isS_q hs
    have ts : t (s + 5) k = ((τ 1) (150 + 6 * k + 4)) := by rw [ft (s + 5) (fun z => by omega)]; exact q6 (by omega)
    refine ⟨kb_r _, fun n0 => ⟨by omega, ?_⟩, fun n1 => ?_⟩
    · rw [ts]
      refine lPo_no p (by omega) (by omega) (by omega) eD ft (Or.inr ⟨o, rfl⟩) ?_
      rw [eA]; exact (kif_t ⟨by omega, kb_f n0⟩).symm
    · refine lPo_no p (by omega) (by omega) (by omega) eD ft (Or.inl rfl) ?_
      rw [eA]; exact (kif_f (fun y => y.2 (kb_t n1))).symm
  · have o := kd.2.2.2.2.2.2.2.1 e
    have eD := sDo_1 (τ := τ) (k := k) (by omega)
    have lx := isLf_r hx
    have lc := isC_q hc
    rw [q4 (Or.inr o)]
    refine ⟨by omega, fun m36 e36 => ?_⟩
    have fr : kfm (lfA c x) m36 σ := by rw [e36]; exact kfm_kup (Or.inr (Or.inr (Or.inr rfl)))
    have mx : m36 x = σ x := by rw [e36]; exact kup_o (by omega)
    refine lPo_mk p (by omega) (by omega) fr ?_ ?_ ?_ ?_ ?_ ?_ ?_ ?_ ?_ (fun _ => ?_) (fun n => absurd o n) (Or.inl rfl) (lNx h hk (by omega))
    · rw [eD, e36]; exact kco_kfm w kk kfm_at (fun y a b z => by omega)
    · rw [mx]; exact x0
    · rw [mx]; exact x1
    · rw [mx, x2, eD]; dsimp only; rw [kb_0 (by decide)]; omega
    · rw [mx, x3, eD]
    · rw [mx, x4, eD]
    · rw [mx, x5, eD]
    · rw [mx]; exact x6
    · rw [mx, x7, eD]
    · rw [e36, kup_k, kst_eq]
  · have o := kd.2.2.2.2.2.2.2.2.1 e
    exact ⟨kfm.refl, fun _ => ⟨pr.2.2.1 (by omega), rfl⟩, fun n => absurd o n⟩
