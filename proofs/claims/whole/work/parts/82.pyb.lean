theorem kKd_loop {o : Int} (h : pOp o) (ho : o ≤ 2026) : (kKd o = 7 ↔ o = 21) ∧ rI (kKd o) := by
  rcases h with rfl | h
  · decide
  · have : o = 2024 ∨ o = 2025 ∨ o = 2026 := by omega
    rcases this with rfl | rfl | rfl <;> decide
theorem P_X4_behindEnd {G : Kg} {σ : Kmem} {x s k : Int} {v lp : Int → Int} (hx : isLf x) (hs : isS s) (p : pwf v ∧ kpr σ s v ∧ (0 ≤ k ∧ pEd v k) ∧ rRel v (σ (x + 1)) lp k ∧ lpR lp) : Run G WX M_X4_behindEnd 0 0 0 [vA G x, vA G s, vI k] σ (fun y t => y = (sEnd1 v (k, lp)).1 ∧ kfm (fun z => z = x + 1) t σ ∧ rRel v (t (x + 1)) (sEnd1 v (k, lp)).2 y) := by
  obtain ⟨pw, pr, ⟨h0, he1, he2⟩, R, hl⟩ := p
  have p8 := pw.1
  have lx := isLf_r hx
  have ls := isS_q hs
  have ln := pw.2.1 k h0 he1
  obtain ⟨b1, b2, b3⟩ := ln.2.2.2.2.2.2.2.2 he2
  have pl := pr.2.2.2 k h0 he1
  have e5 := pl.2.2.2.2.2 (by omega)
  have lnb := pw.2.1 ((v (150 + 6 * k + 4))) b1.1 (by omega)
  have plb := pr.2.2.2 ((v (150 + 6 * k + 4))) b1.1 (by omega)
  have kb7 := kKd_loop b2 (by have := lnb.1; omega)
  have lo := hl ((v (150 + 6 * k + 4))) (by omega) (by omega)
  refine S_X4_behindEnd hx hs ?_
  rw [e5, plb.1]
  have rk : ∀ (r' : Int → Int), (∀ o, o ≠ (v (150 + 6 * k + 4)) → r' o = σ (x + 1) o) → rRel v r' lp (k + 1) := by
    intro r' hr o a b c d
    by_cases eb : o = (v (150 + 6 * k + 4))
    · rw [eb] at c; omega
    · rw [hr o eb]
      exact R o a (by by_cases e : o = k; subst e; omega; omega) (by omega) d
  refine ⟨by omega, by omega, kb7.2, fun n7 => ?_, fun e7 => ⟨by omega, by omega, by omega, ?_, ?_, ?_⟩⟩
  · have e : sEnd1 v (k, lp) = (k + 1, lp) := kif_f (fun y => n7 (kb7.1.2 y.1))
    rw [e]
    exact ⟨rfl, kfm.refl, rk _ (fun _ _ => rfl)⟩
  all_goals
    have o21 := kb7.1.1 e7
    have rb := R ((v (150 + 6 * k + 4))) b1.1 b1.2 (by omega) o21
    rw [kup_at, rb]
  · omega
  · intro le
    have e : sEnd1 v (k, lp) = (k + 1, lp) := kif_f (fun y => by have y2 : 0 < lp ((v (150 + 6 * k + 4))) := y.2; omega)
    rw [e]
    refine ⟨rfl, kfm_at, rk _ (fun o ho => ?_)⟩
    exact kup_j ho
  · intro gt
    have e : sEnd1 v (k, lp) = ((v (150 + 6 * k + 4)) + 1, ku lp ((v (150 + 6 * k + 4))) (lp ((v (150 + 6 * k + 4))) - 1)) := kif_t ⟨o21, by show 0 < lp ((v (150 + 6 * k + 4))); omega⟩
    rw [e]
    refine ⟨rfl, kfm_at, fun o a b c d => ?_⟩
    by_cases eb : o = (v (150 + 6 * k + 4))
    · rw [eb, kup_at]
      show _ = ku lp ((v (150 + 6 * k + 4))) (lp ((v (150 + 6 * k + 4))) - 1) ((v (150 + 6 * k + 4))) + 1
      rw [ku_eq]; omega
    · rw [kup_j eb]
      show _ = ku lp ((v (150 + 6 * k + 4))) (lp ((v (150 + 6 * k + 4))) - 1) o + 1
      rw [ku_ne eb]
      have := pw.2.2 o ((v (150 + 6 * k + 4))) a (by omega) (by omega) (Or.inl d) b2 (by omega)
      exact R o a (by omega) (by omega) d
theorem run_ends {G : Kg} {x s c : Int} {v : Int → Int} {Q : Int → Kmem → Prop} (hx : isLf x) (hs : isS s) (hc : isC c) (pw : pwf v) : ∀ (n : Nat) (k : Int) (lp : Int → Int) (σ : Kmem) (i : Int), sMu v (k, lp) < n → (0 ≤ k ∧ k ≤ v 8) → lpR lp → 0 ≤ i → i + n ≤ 990000 → (kpr σ s v ∧ σ s 0 = 1) → rRel v (σ (x + 1)) lp k →
    (∀ (σ' : Kmem) (i' : Int), 0 ≤ i' → i' ≤ i + n → kfm (fun z => z = x + 1) σ' σ → rRel v (σ' (x + 1)) (sEnds v n (k, lp)).2 (sEnds v n (k, lp)).1 → E_X4_run_47 G x s c (sEnds v n (k, lp)).1 i' σ' Q) → E_X4_run_47 G x s c k i σ Q := by
  have p8 := pw.1
  have lx := isLf_r hx
  have ls := isS_q hs
  intro n
  induction n with
  | zero => intro k lp σ i hm h0 hl; have := sMu_r (a := (k, lp)) pw h0.1 hl; omega
  | succ n ih =>
    intro k lp σ i hm h0 hl hi0 hi hpr R go
    obtain ⟨pr, pr1⟩ := hpr
    by_cases e : pEd v k
    · have eK : sEnds v (n + 1) (k, lp) = sEnds v n (sEnd1 v (k, lp)) := kif_t e
      rw [eK] at go
      have ok := sEnd1_ok (a := (k, lp)) pw h0.1 hl e
      have v8 : v 8 ≠ -1 := by have := e.1; omega
      have l2 := pr.2.2.1 v8
      have pl := pr.2.2.2 k h0.1 e.1
      have k9 : σ (s + 1) k = 9 := by rw [pl.1, e.2]; decide
      have e1 := e.1
      refine S_X4_run_47 (l4 := 0) hx hs hc ⟨by omega, fun q => by omega, fun _ => ⟨by omega, by omega, fun q => by omega, fun _ => ⟨by omega, by rw [k9]; decide, fun n9 => absurd k9 n9, fun _ => Run.mono (P_X4_behindEnd hx hs ⟨pw, pr, ⟨h0.1, e⟩, R, hl⟩) (fun y t z => ?_)⟩⟩⟩
      obtain ⟨rfl, ft, Rt⟩ := z
      have h1 := ok.2.2.2
      refine ih (sEnd1 v (k, lp)).1 (sEnd1 v (k, lp)).2 t (i + 1) (by have h2 : sMu v ((sEnd1 v (k, lp)).1, (sEnd1 v (k, lp)).2) = sMu v (sEnd1 v (k, lp)) := rfl; omega) ok.1 ok.2.1 (by omega) (by omega) ⟨kpr_kfm pr ft (fun y a b z => by omega), by rw [ft s (by omega)]; exact pr1⟩ Rt (fun σ' i' a b f R' => ?_)
      exact go σ' i' a (by omega) (f.trans ft) R'
    · have eK : sEnds v (n + 1) (k, lp) = (k, lp) := kif_f e
      rw [eK] at go
      exact go σ i hi0 (by omega) kfm.refl R
def lEnd (σ : Kmem) (x c s : Int) (τ : Kmem) : Prop := (kco σ c (τ 1) ∧ kpr σ s (τ 1)) ∧ (σ x 0 = 1 ∧ σ x 1 = τ 0 36 ∧ σ x 2 = τ 19 0 ∧ σ x 3 = τ 19 1 ∧ σ x 4 = τ 19 2 ∧ σ x 5 = τ 19 3 ∧ σ x 6 = τ 19 4)
theorem run_loop {G : Kg} {x s c : Int} {Q : Int → Kmem → Prop} (hx : isLf x) (hs : isS s) (hc : isC c) : ∀ (n : Nat) (k : Int) (τ σ : Kmem) (i : Int), sLv τ k → τ 0 36 = 300 - n → n ≤ 300 → 0 ≤ i → i + 210 * (n + 1) ≤ 900000 → (lRel σ x c s τ k ∧ σ s 0 = 1) → (∀ σ', kfm (lfA c x) σ' σ → lEnd σ' x c s (sRun n k τ) → Q 0 σ') → E_X4_run_47 G x s c k i σ Q := by
  have lx := isLf_r hx
  have lc := isC_q hc
  have ls := isS_q hs
  have cs := isCS hc hs
  intro n
  induction n with
  | zero =>
    intro k τ σ i h h36 hn hi0 hi hL hQ
    obtain ⟨L, pr1⟩ := hL
    have L' := L
    obtain ⟨⟨kk, pr⟩, ⟨x0, x1, x2, x3, x4, x5, x6, x7⟩, R⟩ := L'
    have p8 := h.1.2.1.1
    have k0 := h.2.1
    have v8 : τ 1 8 ≠ -1 := by omega
    have l2 := pr.2.2.1 v8
    refine S_X4_run_47 (l4 := 0) hx hs hc ⟨by omega, fun q => by omega, fun _ => ⟨by omega, by omega, fun q => ?_, fun q => ?_⟩⟩
    · have e : sRun 0 k τ = τ := kif_t (by omega)
      rw [e] at hQ
      exact hQ σ kfm.refl ⟨⟨kk, pr⟩, x0, x1, x2, x3, x4, x5, x6⟩
    · have ln := h.1.2.1.2.1 k k0.1 (by omega)
      have n22 : ((τ 1) (150 + 6 * k)) ≠ 22 := fun e => h.2.2.1 ⟨by omega, e⟩
      have kd := kKd_of ln.1 n22
      have pl := pr.2.2.2 k k0.1 (by omega)
      have e : sRun 0 k τ = kup τ 19 4 1 := kif_f (by omega)
      rw [e] at hQ
      refine ⟨by omega, by rw [pl.1]; exact kd.1, fun _ => ⟨by omega, fun lt => by omega, fun _ m27 e27 => ?_⟩, fun n9 => absurd (pl.1.symm.trans n9) kd.2.2.2.2.2.2.2.2.2⟩
      have f27 : kfm (fun z => z = x) m27 σ := by rw [e27]; exact kfm_at
      refine hQ m27 (f27.wide (fun y z => Or.inr (Or.inr (Or.inl z)))) ⟨⟨?_, ?_⟩, ?_, ?_, ?_, ?_, ?_, ?_, ?_⟩
      · rw [kup_o (by omega)]; exact kco_kfm h.1.1 kk f27 (fun y a b z => by omega)
      · rw [kup_o (by omega)]; exact kpr_kfm pr f27 (fun y a b z => by omega)
      · rw [e27, kup_j (by omega)]; exact x0
      · rw [e27, kup_j (by omega), kup_x (by omega)]; exact x1
      · rw [e27, kup_j (by omega), kup_j (by omega)]; exact x2
      · rw [e27, kup_j (by omega), kup_j (by omega)]; exact x3
      · rw [e27, kup_j (by omega), kup_j (by omega)]; exact x4
      · rw [e27, kup_j (by omega), kup_j (by omega)]; exact x5
      · rw [e27, kup_at, kup_at]
  | succ n ih =>
    intro k τ σ i h h36 hn hi0 hi hL hQ
    obtain ⟨L, pr1⟩ := hL
    have L' := L
    obtain ⟨⟨kk, pr⟩, ⟨x0, x1, x2, x3, x4, x5, x6, x7⟩, R⟩ := L'
    have p8 := h.1.2.1.1
    have k0 := h.2.1
    have v8 : τ 1 8 ≠ -1 := by omega
    have l2 := pr.2.2.1 v8
    refine S_X4_run_47 (l4 := 0) hx hs hc ⟨by omega, fun q => by omega, fun _ => ⟨by omega, by omega, fun q => ?_, fun q => ?_⟩⟩
    · have e : sRun (n + 1) k τ = τ := kif_t (by omega)
      rw [e] at hQ
      exact hQ σ kfm.refl ⟨⟨kk, pr⟩, x0, x1, x2, x3, x4, x5, x6⟩
    have hk : k < τ 1 8 := by omega
    have ln := h.1.2.1.2.1 k k0.1 hk
    have n22 : ((τ 1) (150 + 6 * k)) ≠ 22 := fun e => h.2.2.1 ⟨by omega, e⟩
    have kd := kKd_of ln.1 n22
    have pl := pr.2.2.2 k k0.1 (by omega)
    refine ⟨by omega, by rw [pl.1]; exact kd.1, fun _ => ⟨by omega, fun lt m23 e23 => ?_, fun ge => by omega⟩, fun n9 => absurd (pl.1.symm.trans n9) kd.2.2.2.2.2.2.2.2.2⟩
    have f23 : kfm (fun z => z = x) m23 σ := by rw [e23]; exact kfm_at
    have ht := sTick_lv h
    have t1 : sTick τ 1 = τ 1 := kup_o (by omega)
    have tj : ∀ y, y ≠ 0 → sTick τ y = τ y := fun y hy => kup_o hy
    have t36 : sTick τ 0 36 = τ 0 36 + 1 := kup_at
    have L23 : lRel m23 x c s (sTick τ) k := by
      refine ⟨⟨by rw [t1]; exact kco_kfm h.1.1 kk f23 (fun y a b z => by omega), by rw [t1]; exact kpr_kfm pr f23 (fun y a b z => by omega)⟩, ⟨?_, ?_, ?_, ?_, ?_, ?_, ?_, ?_⟩, ?_⟩
      · rw [e23, kup_j (by omega)]; exact x0
      · rw [e23, kup_at, t36, x1]
      · rw [e23, kup_j (by omega), tj 19 (by omega)]; exact x2
      · rw [e23, kup_j (by omega), tj 19 (by omega)]; exact x3
      · rw [e23, kup_j (by omega), tj 19 (by omega)]; exact x4
      · rw [e23, kup_j (by omega), tj 19 (by omega)]; exact x5
      · rw [e23, kup_j (by omega), tj 19 (by omega)]; exact x6
      · rw [e23, kup_j (by omega), x7]; exact (kup_j (by omega)).symm
      · rw [t1, tj 18 (by omega), f23 (x + 1) (by omega)]; exact R
    have qt : k < sTick τ 1 8 := by rw [t1]; exact hk
    have e : sRun (n + 1) k τ = kif (((τ 1) (150 + 6 * k)) = 23) (sTick τ) (sRun n (sAll (sTick τ) k).1 (kst (sAft (sTick τ) k) 18 (sAll (sTick τ) k).2)) := kif_f (by omega)
    rw [e] at hQ
    refine Run.mono (P_X4_behindStep (x := x) (s := s) (c := c) ⟨⟨hx, hc, hs⟩, ht, qt, L23⟩) (fun y t z => ?_)
    obtain ⟨ft, z23, zn⟩ := z
    rw [t1] at z23 zn
    have fa : kfm (lfA c x) t σ := ft.trans (f23.wide (fun y z => Or.inr (Or.inr (Or.inl z))))
    by_cases o23 : ((τ 1) (150 + 6 * k)) = 23
    · obtain ⟨rfl, rfl⟩ := z23 o23
      rw [kif_t o23] at hQ
      have l2' : t s 2 = τ 1 8 := by rw [f23 s (by omega)]; exact l2
      refine S_X4_run_47 (l4 := 0) hx hs hc ⟨by omega, fun q => by omega, fun _ => ⟨by omega, by omega, fun q => ?_, fun q => by omega⟩⟩
      exact hQ t fa ⟨L23.1, L23.2.1.1, L23.2.1.2.1, L23.2.1.2.2.1, L23.2.1.2.2.2.1, L23.2.1.2.2.2.2.1, L23.2.1.2.2.2.2.2.1, L23.2.1.2.2.2.2.2.2.1⟩
    · rw [kif_f o23] at hQ
      obtain ⟨rfl, Lt⟩ := zn o23
      have oka := sAft_ok ht qt
      have okn := sNxt_ok oka.1.2.1 ⟨k0.1, by rw [oka.2.1.2.2.2.1.1]; exact qt⟩
      have mu := sMu_r (a := (sNxt (sAft (sTick τ) k 1) k, sAft (sTick τ) k 18)) oka.1.2.1 okn.1 oka.2.2.2.1
      have ts : t s 0 = 1 := by
        rw [ft s (fun z => by rcases z with z | z | z | z; have z1 := z.1; have z2 := z.2; omega; omega; omega; omega), f23 s (by omega)]; exact pr1
      refine run_ends hx hs hc oka.1.2.1 200 (sNxt (sAft (sTick τ) k 1) k) (sAft (sTick τ) k 18) t (i + 1) (by omega) okn oka.2.2.2.1 (by omega) (by omega) ⟨Lt.1.2, ts⟩ Lt.2.2 (fun σ' i' a b f R' => ?_)
      have ok := sAll_ok ht qt
      have fx : σ' x = t x := f x (by omega)
      refine ih (sAll (sTick τ) k).1 (kst (sAft (sTick τ) k) 18 (sAll (sTick τ) k).2) σ' i' ok (by rw [kst_ne (by omega), oka.2.2.2.2.1, t36]; omega) (by omega) a (by omega) ⟨⟨⟨?_, ?_⟩, ?_, ?_⟩, ?_⟩ (fun σ2 f2 h2 => hQ σ2 (f2.trans ((f.wide (fun y z => Or.inr (Or.inr (Or.inr z)))).trans fa)) h2)
      · rw [kst_ne (by omega)]; exact kco_kfm oka.1.1 Lt.1.1 f (fun y a b z => by omega)
      · rw [kst_ne (by omega)]; exact kpr_kfm Lt.1.2 f (fun y a b z => by omega)
      · rw [fx, kst_ne (by omega), kst_ne (by omega)]; exact Lt.2.1
      · rw [kst_ne (by omega), kst_eq]; exact R'
      · rw [f s (by omega)]; exact ts
theorem P_X4_run {G : Kg} {σ M : Kmem} {x s c seed : Int} (hx : isLf x) (hs : isS s) (hc : isC c) (p : (wf (M 1) ∧ pwf (M 1) ∧ M 1 7 ≤ 9999) ∧ 0 ≤ M 1 8 ∧ (0 ≤ seed ∧ seed ≤ 65535) ∧ lpR (M 18) ∧ kco σ c (M 1) ∧ kpr σ s (M 1)) : Run G WX M_X4_run 6 0 0 [vA G x, vA G s, vA G c, vA G 58, vI seed] σ (fun y t => y = 0 ∧ kfm (lfA c x) t σ ∧ lEnd t x c s (sRun 300 0 (sBeg M seed))) := by
  obtain ⟨h1, h8, hsd, hl, kk, pr⟩ := p
  have bg := sBeg_lv ⟨h1, h8, hsd, hl⟩
  have lx := isLf_r hx
  have lc := isC_q hc
  have ls := isS_q hs
  have pr1 : σ s 0 = 1 := pr.1.1.resolve_left (fun e => by have := pr.2.1.1 e; omega)
  refine S_X4_run hx hs hc (fun m1 e1 m3 e3 m5 e5 m7 e7 m9 e9 m11 e11 m13 e13 m15 e15 => ?_)
  have f : kfm (fun z => z = x) m15 σ := by
    rw [e15, e13, e11, e9, e7, e5, e3, e1]
    exact kfm_at.trans (kfm_at.trans (kfm_at.trans (kfm_at.trans (kfm_at.trans (kfm_at.trans (kfm_at.trans kfm_at))))))
  have x0 : m15 x 0 = 1 := by rw [e15, kup_j (by omega), e13, kup_j (by omega), e11, kup_j (by omega), e9, kup_j (by omega), e7, kup_j (by omega), e5, kup_j (by omega), e3, kup_j (by omega), e1, kup_at]
  have x1 : m15 x 1 = 0 := by rw [e15, kup_j (by omega), e13, kup_j (by omega), e11, kup_j (by omega), e9, kup_j (by omega), e7, kup_j (by omega), e5, kup_j (by omega), e3, kup_at]
  have x2 : m15 x 2 = 0 := by rw [e15, kup_j (by omega), e13, kup_j (by omega), e11, kup_j (by omega), e9, kup_j (by omega), e7, kup_j (by omega), e5, kup_at]
  have x3 : m15 x 3 = 0 := by rw [e15, kup_j (by omega), e13, kup_j (by omega), e11, kup_j (by omega), e9, kup_j (by omega), e7, kup_at]
  have x4 : m15 x 4 = 0 := by rw [e15, kup_j (by omega), e13, kup_j (by omega), e11, kup_j (by omega), e9, kup_at]
  have x5 : m15 x 5 = 0 := by rw [e15, kup_j (by omega), e13, kup_j (by omega), e11, kup_at]
  have x6 : m15 x 6 = 0 := by rw [e15, kup_j (by omega), e13, kup_at]
  have x7 : m15 x 7 = seed := by rw [e15, kup_at]
  have b19 : ∀ j, 0 ≤ j → j < 5 → sBeg M seed 19 j = 0 := fun j a b => by
    unfold sBeg; rw [kst_eq]; exact if_pos ⟨a, b⟩
  have b35 : sBeg M seed 0 35 = seed := by unfold sBeg; rw [kst_ne (by omega), kup_j (by omega), kup_at]
  refine run_loop hx hs hc 300 0 (sBeg M seed) m15 0 bg.1 (by rw [bg.2.2]; rfl) (by omega) (by omega) (by omega) ⟨⟨⟨?_, ?_⟩, ⟨x0, ?_, ?_, ?_, ?_, ?_, ?_, ?_⟩, fun o a b => by omega⟩, ?_⟩ (fun σ' f' h' => ⟨rfl, f'.trans (f.wide (fun y z => Or.inr (Or.inr (Or.inl z)))), h'⟩)
  · rw [bg.2.1]; exact kco_kfm h1.1 kk f (fun y a b z => by omega)
  · rw [bg.2.1]; exact kpr_kfm pr f (fun y a b z => by omega)
  · rw [x1, bg.2.2]
  · rw [x2, b19 0 (by omega) (by omega)]
  · rw [x3, b19 1 (by omega) (by omega)]
  · rw [x4, b19 2 (by omega) (by omega)]
  · rw [x5, b19 3 (by omega) (by omega)]
  · rw [x6, b19 4 (by omega) (by omega)]
  · rw [x7, b35]
  · rw [f s (by omega)]; exact pr1
/-! seasons are copied, cleared -/
theorem isS_dis {c d : Int} (hc : isS c) (hd : isS d) (h : c ≠ d) : c + 7 ≤ d ∨ d + 7 ≤ c := by
  rcases hc with rfl | rfl | rfl | rfl | rfl <;> rcases hd with rfl | rfl | rfl | rfl | rfl <;> omega
abbrev seaA (s y : Int) : Prop := s ≤ y ∧ y < s + 7
theorem P_X7_clear {G : Kg} {σ : Kmem} {s : Int} (hs : isS s) : Run G WX M_X7_clear 0 0 0 [vA G s] σ (fun y t => y = 0 ∧ kfm (fun z => z = s) t σ ∧ t s 0 = 0 ∧ t s 1 = 0 ∧ t s 2 = 0 ∧ t s 9 = 0) := by
  refine S_X7_clear hs (fun m1 e1 m3 e3 m5 e5 m7 e7 => ?_)
  refine ⟨rfl, ?_, ?_, ?_, ?_, ?_⟩
  · rw [e7, e5, e3, e1]; exact kfm_at.trans (kfm_at.trans (kfm_at.trans kfm_at))
  · rw [e7, kup_j (by omega), e5, kup_j (by omega), e3, kup_j (by omega), e1, kup_at]
  · rw [e7, kup_j (by omega), e5, kup_j (by omega), e3, kup_at]
  · rw [e7, kup_j (by omega), e5, kup_at]
  · rw [e7, kup_at]
theorem P_X7_copy {G : Kg} {σ : Kmem} {s d : Int} {v : Int → Int} (hs : isS s) (hd : isS d) (p : s ≠ d ∧ kpr σ d v) : Run G WX M_X7_copy 1 0 0 [vA G s, vA G d] σ (fun y t => y = 0 ∧ kfm (seaA s) t σ ∧ kpr t s v ∧ t s 1 = σ d 1) := by
  obtain ⟨hne, pr⟩ := p
  have dis := isS_dis hs hd hne
  have hd1 : d ≠ s := fun e => hne e.symm
  obtain ⟨h1, h2, h3, h4⟩ := pr
  refine S_X7_copy hs hd ⟨h1.1, fun m2 e2 m4 e4 m6 e6 => ?_⟩
  have I := cp_step hd1 (cp_step hd1 (cp_step hd1 cp_0 e2) e4) e6
  have n2 : m6 s 2 = σ d 2 := I.2 2 (by omega) (by omega)
  clear e2 e4 e6
  refine ⟨by omega, fun m9 e9 => ?_⟩
  have f9 : kfm (fun x => x = s + 1) m9 m6 := by intro x hx; rw [e9]; funext j; exact if_neg (fun q => hx q.1)
  have n9 : m9 s 2 = σ d 2 := by rw [f9 s (by omega)]; exact n2
  refine ⟨by omega, fun m12 e12 => ?_⟩
  have f12 : kfm (fun x => x = s + 2) m12 m9 := by intro x hx; rw [e12]; funext j; exact if_neg (fun q => hx q.1)
  have n12 : m12 s 2 = σ d 2 := by rw [f12 s (by omega)]; exact n9
  refine ⟨by omega, fun m15 e15 => ?_⟩
  have f15 : kfm (fun x => x = s + 3) m15 m12 := by intro x hx; rw [e15]; funext j; exact if_neg (fun q => hx q.1)
  have n15 : m15 s 2 = σ d 2 := by rw [f15 s (by omega)]; exact n12
  refine ⟨by omega, fun m18 e18 => ?_⟩
  have f18 : kfm (fun x => x = s + 4) m18 m15 := by intro x hx; rw [e18]; funext j; exact if_neg (fun q => hx q.1)
  have n18 : m18 s 2 = σ d 2 := by rw [f18 s (by omega)]; exact n15
  refine ⟨by omega, fun m21 e21 => ?_⟩
  have f21 : kfm (fun x => x = s + 5) m21 m18 := by intro x hx; rw [e21]; funext j; exact if_neg (fun q => hx q.1)
  rw [n2] at e9
  rw [n9] at e12
  rw [n12] at e15
  rw [n15] at e18
  rw [n18] at e21
  have c1 : ∀ k, 0 ≤ k → k < σ d 2 → m21 (s + 1) k = σ (d + 1) k := fun k a b => by
    rw [f21 (s + 1) (by omega), f18 (s + 1) (by omega), f15 (s + 1) (by omega), f12 (s + 1) (by omega), e9]
    show (if s + 1 = s + 1 ∧ 0 ≤ k ∧ k < 0 + σ d 2 then m6 (d + 1) (0 + (k - 0)) else m6 (s + 1) k) = _
    rw [if_pos (by omega), I.1 (d + 1) (by omega)]; congr 1; omega
  have c2 : ∀ k, 0 ≤ k → k < σ d 2 → m21 (s + 2) k = σ (d + 2) k := fun k a b => by
    rw [f21 (s + 2) (by omega), f18 (s + 2) (by omega), f15 (s + 2) (by omega), e12]
    show (if s + 2 = s + 2 ∧ 0 ≤ k ∧ k < 0 + σ d 2 then m9 (d + 2) (0 + (k - 0)) else m9 (s + 2) k) = _
    rw [if_pos (by omega), f9 (d + 2) (by omega), I.1 (d + 2) (by omega)]; congr 1; omega
  have c3 : ∀ k, 0 ≤ k → k < σ d 2 → m21 (s + 3) k = σ (d + 3) k := fun k a b => by
    rw [f21 (s + 3) (by omega), f18 (s + 3) (by omega), e15]
    show (if s + 3 = s + 3 ∧ 0 ≤ k ∧ k < 0 + σ d 2 then m12 (d + 3) (0 + (k - 0)) else m12 (s + 3) k) = _
    rw [if_pos (by omega), f12 (d + 3) (by omega), f9 (d + 3) (by omega), I.1 (d + 3) (by omega)]; congr 1; omega
  have c4 : ∀ k, 0 ≤ k → k < σ d 2 → m21 (s + 4) k = σ (d + 4) k := fun k a b => by
    rw [f21 (s + 4) (by omega), e18]
    show (if s + 4 = s + 4 ∧ 0 ≤ k ∧ k < 0 + σ d 2 then m15 (d + 4) (0 + (k - 0)) else m15 (s + 4) k) = _
    rw [if_pos (by omega), f15 (d + 4) (by omega), f12 (d + 4) (by omega), f9 (d + 4) (by omega), I.1 (d + 4) (by omega)]; congr 1; omega
  have c5 : ∀ k, 0 ≤ k → k < σ d 2 → m21 (s + 5) k = σ (d + 5) k := fun k a b => by
    rw [e21]
    show (if s + 5 = s + 5 ∧ 0 ≤ k ∧ k < 0 + σ d 2 then m18 (d + 5) (0 + (k - 0)) else m18 (s + 5) k) = _
    rw [if_pos (by omega), f18 (d + 5) (by omega), f15 (d + 5) (by omega), f12 (d + 5) (by omega), f9 (d + 5) (by omega), I.1 (d + 5) (by omega)]; congr 1; omega
  have c0 : ∀ j, 0 ≤ j → j < 3 → m21 s j = σ d j := fun j a b => by
    rw [f21 s (by omega), f18 s (by omega), f15 s (by omega), f12 s (by omega), f9 s (by omega)]; exact I.2 j a (by omega)
  refine ⟨rfl, ?_, ⟨?_, ?_, ?_, fun k a b => ?_⟩, c0 1 (by omega) (by omega)⟩
  · exact (f21.wide (fun x q => by omega)).trans ((f18.wide (fun x q => by omega)).trans ((f15.wide (fun x q => by omega)).trans ((f12.wide (fun x q => by omega)).trans ((f9.wide (fun x q => by omega)).trans (I.1.wide (fun x q => by omega))))))
  · rw [c0 0 (by omega) (by omega), c0 2 (by omega) (by omega)]; exact h1
  · rw [c0 0 (by omega) (by omega)]; exact h2
  · rw [c0 2 (by omega) (by omega)]; exact h3
  · have hb : k < σ d 2 := by
      by_cases e : v 8 = -1
      · omega
      · rw [h3 e]; exact b
    have := h4 k a b
    unfold kprL at *
    rw [c1 k a hb, c2 k a hb, c3 k a hb, c4 k a hb, c5 k a hb]
    exact this
