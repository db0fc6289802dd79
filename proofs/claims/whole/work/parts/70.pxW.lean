/-! plans: flights, sought -/
theorem sFlyBest_ff {v : Int → Int} {kite c r : Int} {n : Nat} : sFF kite c r n 0 v 0 (-1, 0) = sFlyBest v kite c r n (5 ^ n) := by
  unfold sFF sFlyBest
  refine kfor_ext _ (fun i a hi => ?_)
  unfold sUpd
  rw [show (0 : Int) * 5 ^ n + i = i by omega]
theorem P_X5_seekFlight {G : Kg} {σ : Kmem} {kite c r n : Int} {v : Int → Int} (p : (wf v ∧ kco σ 31 v) ∧ sKt v kite ∧ sFld v c r ∧ (1 ≤ n ∧ n ≤ 5) ∧ v 7 ≤ 20000) : Run G WX M_X5_seekFlight 21 0 0 [vA G 82, vI kite, vI c, vI r, vI n] σ (fun x s => x = 0 ∧ kfm (fun x => flA x ∨ x = 82 ∨ x = 84 ∨ x = 85) s σ ∧ s 82 6 = n ∧ s 82 7 = (sFlyBest v kite c r n.toNat (5 ^ n.toNat)).1 ∧ (0 ≤ (sFlyBest v kite c r n.toNat (5 ^ n.toNat)).1 → sDig (s 84) n.toNat (sFlyBest v kite c r n.toNat (5 ^ n.toNat)).2)) := by
  obtain ⟨⟨w, kk⟩, hk, hf, hn, h7⟩ := p
  have w1 := wf_h w
  refine S_X5_seekFlight ?_
  have f5 : kfm (fun x => x = 82) (kup (kup (kup (kup (kup σ 82 9 kite) 82 10 c) 82 11 r) 82 6 n) 82 7 (-1)) σ := kfm_at.trans (kfm_at.trans (kfm_at.trans (kfm_at.trans kfm_at)))
  have := P_X5_tryFlight (G := G) (kite := kite) (c := c) (r := r) (n := n.toNat) (by omega) ⟨hk.1, by have := hk.2; omega⟩ ⟨hf.1.1, by have := hf.1.2; omega⟩ ⟨hf.2.1, by have := hf.2.2; omega⟩ n.toNat 20 0 (kup (kup (kup (kup (kup σ 82 9 kite) 82 10 c) 82 11 r) 82 6 n) 82 7 (-1)) v 0 0 (-1, 0) (by omega) (by omega) ⟨w, kco_kfm w kk f5 (fun x a b q => by omega)⟩ ⟨hk, hf, by omega⟩
    ⟨by rw [kup_j (by omega), kup_at]; omega, by rw [kup_j (by omega), kup_j (by omega), kup_j (by omega), kup_j (by omega), kup_at], by rw [kup_j (by omega), kup_j (by omega), kup_j (by omega), kup_at], by rw [kup_j (by omega), kup_j (by omega), kup_at]⟩ kup_at ⟨by show (-1 : Int) ≤ -1; omega, by show (-1 : Int) ≤ 10; omega⟩ ⟨by omega, by omega⟩ (fun i hi => absurd hi (by omega)) (fun h => absurd h (by show ¬ (0 : Int) ≤ -1; omega))
  rw [sFlyBest_ff] at this
  refine Run.mono this (fun x s z => ?_)
  obtain ⟨-, u2, -, fa, fj, -, v7, v84⟩ := z
  refine ⟨rfl, fa.trans (f5.wide (fun x e => Or.inr (Or.inl e))), ?_, v7, v84⟩
  rw [fj 6 (by omega), kup_j (by omega), kup_at]
/-! plans: duels -/
/-- by best play of both: fields of the mover less those of the other, and the mover's first step -/
noncomputable def sDuel : Nat → Int → Int → (Int → Int) → Int × Int
  | 0, a, b, v => (sEst v a (v 7 % 12) - sEst v b (v 7 % 12), 0)
  | m + 1, a, b, v => kfor (fun s y => kif (sMay v a s) (sUpd (-(sDuel m b a (sWalk v a s)).1) s y) y) 5 (-64, 0)
theorem sEst_r {v : Int → Int} {k h : Int} (w : wf v) : 0 ≤ sEst v k h ∧ sEst v k h ≤ 63 := kcnt_r w
theorem sUpd_r {F code lo hi : Int} {a : Int × Int} (h : lo ≤ F ∧ F ≤ hi) (g : a.1 ≤ hi) : (sUpd F code a).1 ≤ hi := by
  unfold sUpd
  by_cases q : a.1 < F
  · rw [kif_t q]; exact h.2
  · rw [kif_f q]; exact g
theorem may_0 {v : Int → Int} {a : Int} (w : wf v) (hk : sKt v a) : sMay v a 0 := by
  have := w.2.2.1 a hk.1 hk.2
  refine ⟨?_, ?_⟩
  · show 0 ≤ v (34 + 9 * a) + 0 ∧ v (34 + 9 * a) + 0 < v 0; omega
  · show 0 ≤ v (34 + 9 * a + 1) + 0 ∧ v (34 + 9 * a + 1) + 0 < v 1; omega
theorem sDuel_r : ∀ (m : Nat) (a b : Int) (v : Int → Int), wf v → sKt v a → sKt v b → -63 ≤ (sDuel m a b v).1 ∧ (sDuel m a b v).1 ≤ 63 := by
  intro m
  induction m with
  | zero =>
    intro a b v w _ _
    have h1 := sEst_r (k := a) (h := v 7 % 12) w
    have h2 := sEst_r (k := b) (h := v 7 % 12) w
    show -63 ≤ _ - _ ∧ _ - _ ≤ (63 : Int)
    omega
  | succ m ih =>
    intro a b v w ha hb
    unfold sDuel
    have val : ∀ s : Int, sMay v a s → -63 ≤ -(sDuel m b a (sWalk v a s)).1 ∧ -(sDuel m b a (sWalk v a s)).1 ≤ 63 := by
      intro s hs
      have ok := sWalk_ok w ha hs
      have e2 : sWalk v a s 2 = v 2 := ok.2.1 2 (by omega) (by omega)
      have := ih b a (sWalk v a s) ok.1 ⟨hb.1, by rw [e2]; exact hb.2⟩ ⟨ha.1, by rw [e2]; exact ha.2⟩
      omega
    have lo : ∀ n : Nat, 1 ≤ n → -63 ≤ (kfor (fun s y => kif (sMay v a s) (sUpd (-(sDuel m b a (sWalk v a s)).1) s y) y) n (-64, 0)).1 := by
      intro n h
      induction n with
      | zero => omega
      | succ n jh =>
        show -63 ≤ (kif (sMay v a n) (sUpd _ _ (kfor _ n (-64, 0))) (kfor _ n (-64, 0))).1
        by_cases q : sMay v a n
        · rw [kif_t q]
          have := (sUpd_le (F := -(sDuel m b a (sWalk v a n)).1) (code := n) (a := kfor (fun s y => kif (sMay v a s) (sUpd (-(sDuel m b a (sWalk v a s)).1) s y) y) n (-64, 0))).2
          have := val n q
          omega
        · rw [kif_f q]
          by_cases e : n = 0
          · subst e; exact absurd (may_0 w ha) q
          · exact jh (by omega)
    refine ⟨lo 5 (by omega), ?_⟩
    refine kfor_inv (P := fun _ (y : Int × Int) => y.1 ≤ 63) (by show (-64 : Int) ≤ 63; omega) 5 (fun i y hi h => ?_)
    by_cases q : sMay v a i
    · rw [kif_t q]; exact sUpd_r (val i q) h
    · rw [kif_f q]; exact h
theorem kgw_duel : ∀ (m : Nat) (a b : Int) (u v : Int → Int), kgw u v → wf v → sKt v a → sKt v b → sDuel m a b u = sDuel m a b v := by
  intro m
  induction m with
  | zero =>
    intro a b u v g w ha hb
    unfold sDuel
    rw [kgw_7 g, kgeo_est w (kgw_geo w g) ⟨by omega, by omega⟩, kgeo_est w (kgw_geo w g) ⟨by omega, by omega⟩]
  | succ m ih =>
    intro a b u v g w ha hb
    have w1 := wf_h w
    have ha1 := ha.1
    have ha2 := ha.2
    have a6 : 0 ≤ a ∧ a < 6 := by omega
    unfold sDuel
    refine kfor_ext _ (fun s y hs => ?_)
    by_cases q : sMay v a s
    · have ok := sWalk_ok w ha q
      have e2 : sWalk v a s 2 = v 2 := ok.2.1 2 (by omega) (by omega)
      rw [kif_t q, kif_t ((kgw_may g a6).2 q), ih b a _ _ (kgw_walk g a6) ok.1 ⟨hb.1, by rw [e2]; exact hb.2⟩ ⟨ha1, by rw [e2]; exact ha2⟩]
    · rw [kif_f q, kif_f (fun y => q ((kgw_may g a6).1 y))]
theorem P_X5_playOut {G : Kg} : ∀ (m d : Nat) (a b : Int) (σ : Kmem) (u : Int → Int), m ≤ 4 → 12 + m ≤ d → (wf u ∧ kco σ 31 u) → (sKt u a ∧ sKt u b) →
    Run G WX M_X5_playOut d 0 0 [vA G 82, vI a, vI b, vI m] σ (fun x s => x = (sDuel m a b u).1 ∧ (∃ u2, kgw u2 u ∧ kco s 31 u2) ∧ kfm (fun x => flA x ∨ x = 86) s σ ∧ (1 ≤ m → s 86 m = (sDuel m a b u).2) ∧ ∀ i, (m : Int) < i → s 86 i = σ 86 i) := by
  have hc : isC 31 := Or.inr (Or.inl rfl)
  intro m
  induction m with
  | zero =>
    intro d a b σ u hm hd hu hk
    obtain ⟨w, kk⟩ := hu
    have w1 := wf_h w
    have kh := kco_h kk
    refine S_X5_playOut (dr := 11) (by omega) (by omega) ⟨by decide, fun _ => ⟨by omega, ?_⟩, fun q => by omega⟩
    rw [kh.2.1]
    refine Run.mono (P_X8_look hc ⟨w, kk, by omega, by omega⟩) (fun x s z => ?_)
    obtain ⟨-, f, k2, -, dd⟩ := z
    refine Run.mono (P_X8_fieldsOf ⟨⟨w, dd⟩, hk.1⟩) (fun x s2 z => ?_)
    obtain ⟨rfl, rfl⟩ := z
    refine Run.mono (P_X8_fieldsOf ⟨⟨w, dd⟩, hk.2⟩) (fun x s3 z => ?_)
    obtain ⟨rfl, rfl⟩ := z
    exact ⟨rfl, ⟨u, kgw.refl, k2⟩, f.wide (fun x e => Or.inl (by omega)), fun h => by omega, fun i hi => by rw [f 86 (by omega)]⟩
  | succ m ih =>
    intro d a b σ u hm hd hu hk
    obtain ⟨w, kk⟩ := hu
    obtain ⟨ha, hb⟩ := hk
    have w1 := wf_h w
    have ha1 := ha.1
    have ha2 := ha.2
    have hb1 := hb.1
    have hb2 := hb.2
    have a6 : 0 ≤ a ∧ a < 6 := by omega
    have kc := kk.2.2.1 a ha1 ha2
    let F : Int → Int × Int → Int × Int := fun s y => kif (sMay u a s) (sUpd (-(sDuel m b a (sWalk u a s)).1) s y) y
    have eF : sDuel (m + 1) a b u = kfor F 5 (-64, 0) := rfl
    generalize hQ : (fun (x : Int) (s : Kmem) => x = (sDuel (m + 1) a b u).1 ∧ (∃ u2, kgw u2 u ∧ kco s 31 u2) ∧ kfm (fun x => flA x ∨ x = 86) s σ ∧ (1 ≤ m + 1 → s 86 ((m + 1 : Nat) : Int) = (sDuel (m + 1) a b u).2) ∧ ∀ i, ((m + 1 : Nat) : Int) < i → s 86 i = σ 86 i) = Q
    refine S_X5_playOut (dr := d - 1) (by omega) (by omega) ⟨by omega, fun q => by omega, fun _ => ⟨fun _ => ⟨by omega, ?_⟩, fun q => by omega⟩⟩
    rw [kc.1.1, kc.1.2.1]
    have val : ∀ s : Int, sMay u a s → -63 ≤ -(sDuel m b a (sWalk u a s)).1 ∧ -(sDuel m b a (sWalk u a s)).1 ≤ 63 := by
      intro s hs
      have ok := sWalk_ok w ha hs
      have e2 : sWalk u a s 2 = u 2 := ok.2.1 2 (by omega) (by omega)
      have := sDuel_r m b a (sWalk u a s) ok.1 ⟨hb1, by rw [e2]; exact hb2⟩ ⟨ha1, by rw [e2]; exact ha2⟩
      omega
    have br : ∀ k : Nat, -64 ≤ (kfor F k (-64, 0)).1 ∧ (kfor F k (-64, 0)).1 ≤ 63 := by
      intro k
      refine kfor_inv (P := fun _ (y : Int × Int) => -64 ≤ y.1 ∧ y.1 ≤ 63) ⟨by show (-64 : Int) ≤ -64; omega, by show (-64 : Int) ≤ 63; omega⟩ k (fun i y hi h => ?_)
      show -64 ≤ (kif (sMay u a i) _ y).1 ∧ (kif (sMay u a i) _ y).1 ≤ 63
      by_cases q : sMay u a i
      · rw [kif_t q]
        have := (sUpd_le (F := -(sDuel m b a (sWalk u a i)).1) (code := i) (a := y)).1
        exact ⟨by omega, sUpd_r (val i q) h.2⟩
      · rw [kif_f q]; exact h
    have b1 : ∀ k : Nat, 1 ≤ k → -64 < (kfor F k (-64, 0)).1 := by
      intro k hk
      induction k with
      | zero => omega
      | succ k jh =>
        show -64 < (kif (sMay u a k) (sUpd _ _ (kfor F k (-64, 0))) (kfor F k (-64, 0))).1
        by_cases q : sMay u a k
        · rw [kif_t q]
          have := (sUpd_le (F := -(sDuel m b a (sWalk u a k)).1) (code := k) (a := kfor F k (-64, 0))).2
          have := val k q
          omega
        · rw [kif_f q]
          by_cases e : k = 0
          · subst e; exact absurd (may_0 w ha) q
          · exact jh (by omega)
    refine kloopP (E := fun k (z : Int × Kmem) => E_X5_playOut_77 G d a b ((m + 1 : Nat) : Int) (31 + 6 + a) (u (34 + 9 * a)) (u (34 + 9 * a + 1)) z.1 k z.2 Q) (fun k z => z.1 = (kfor F k (-64, 0)).1 ∧ (∃ u1, kgw u1 u ∧ kco z.2 31 u1) ∧ kfm (fun x => flA x ∨ x = 86) z.2 σ ∧ (1 ≤ k → z.2 86 ((m + 1 : Nat) : Int) = (kfor F k (-64, 0)).2) ∧ ∀ i, ((m + 1 : Nat) : Int) < i → z.2 86 i = σ 86 i) 5 (fun k z hk5 hI jh => S_X5_playOut_77 (dr := d - 1) (by omega) (by omega) (kIsX_kite hc ⟨by omega, by omega⟩) ⟨by omega, fun q => ?_, fun q => ?_⟩) (τ := (-64, σ)) ⟨rfl, ⟨u, kgw.refl, kk⟩, kfm.refl, fun h => by omega, fun _ _ => rfl⟩
    · obtain ⟨z1, hu1, f1, st, ot⟩ := hI
      have ek : k = 5 := by omega
      subst ek
      rw [← hQ, eF]
      exact ⟨z1, hu1, f1, fun _ => st (by omega), ot⟩
    · obtain ⟨z1, ⟨u1, gu, ku1⟩, f1, st, ot⟩ := hI
      have jh := jh (by omega)
      have k5 : (0 : Int) ≤ k ∧ (k : Int) < 5 := by omega
      have wu1 := kgw_wf w gu
      have e2 : u1 2 = u 2 := kgw_hd gu 2 (by omega) (by omega)
      have may := kgw_may (s := k) gu a6
      refine Run.mono (P_X0_mayStep hc ⟨wu1, ku1, ⟨ha1, by omega⟩, k5⟩) (fun x s y => ?_)
      rw [y.1, y.2]
      have Fs : kfor F (k + 1) (-64, 0) = kif (sMay u a k) (sUpd (-(sDuel m b a (sWalk u a k)).1) k (kfor F k (-64, 0))) (kfor F k (-64, 0)) := rfl
      refine ⟨kb_r _, fun n0 => ?_, fun n1 => ?_⟩
      · have no : ¬ sMay u a k := fun y => kb_f n0 (may.2 y)
        rw [kif_f no] at Fs
        refine jh (z.1, z.2) ?_
        rw [Fs]
        refine ⟨z1, ⟨u1, gu, ku1⟩, f1, fun _ => ?_, ot⟩
        by_cases e : k = 0
        · subst e; exact absurd (may_0 w ha) no
        · exact st (by omega)
      · have yes1 : sMay u1 a k := kb_t n1
        have yes := may.1 yes1
        rw [kif_t yes] at Fs
        have wk := sWalk_ok w ha yes
        have wk1 := sWalk_ok wu1 ⟨ha1, by omega⟩ yes1
        refine Run.mono (P_X0_stepHand hc ⟨wu1, ku1, ⟨ha1, by omega⟩, yes1, k5⟩) (fun x s1 y => ?_)
        obtain ⟨-, fa, ka⟩ := y
        have gw := kgw_walk (s := k) gu a6
        have w2 : sWalk u1 a k 2 = u 2 := by rw [wk1.2.1 2 (by omega) (by omega), e2]
        have w2' : sWalk u a k 2 = u 2 := wk.2.1 2 (by omega) (by omega)
        have hrun := ih (d - 1) b a s1 (sWalk u1 a k) (by omega) (by omega) ⟨wk1.1, ka⟩ ⟨⟨hb1, by rw [w2]; exact hb2⟩, ⟨ha1, by rw [w2]; exact ha2⟩⟩
        rw [kgw_duel m b a _ _ gw wk.1 ⟨hb1, by rw [w2']; exact hb2⟩ ⟨ha1, by rw [w2']; exact ha2⟩] at hrun
        rw [show ((m + 1 : Nat) : Int) - 1 = (m : Int) by omega]
        refine Run.mono hrun (fun x s2 y => ?_)
        obtain ⟨rfl, ⟨u2, g2, k2⟩, fb, -, oi⟩ := y
        have vv := val k yes
        have bk := br k
        have wu2 := kgw_wf wk1.1 g2
        have u22 : u2 2 = u 2 := by rw [kgw_hd g2 2 (by omega) (by omega), w2]
        have wka := w.2.2.1 a ha1 ha2
        have k3 := kco_col (k := a) (x := u (34 + 9 * a)) wu2 k2 ⟨ha1, by rw [u22]; exact ha2⟩
        have w3 : wf (ku u2 (34 + 9 * a) (u (34 + 9 * a))) := by
          refine wf_col wu2 ⟨ha1, by rw [u22]; exact ha2⟩ ?_
          rw [kgw_hd g2 0 (by omega) (by omega), wk1.2.1 0 (by omega) (by omega), kgw_hd gu 0 (by omega) (by omega)]
          exact wka.1
        have k4 := kco_row (k := a) (x := u (34 + 9 * a + 1)) w3 k3 ⟨ha1, by rw [ku_ne (by omega), u22]; exact ha2⟩
        have g4 : kgw (ku (ku u2 (34 + 9 * a) (u (34 + 9 * a))) (34 + 9 * a + 1) (u (34 + 9 * a + 1))) u := by
          intro j j0 j1 nw
          by_cases e1 : j = 34 + 9 * a + 1
          · rw [e1, ku_eq]
          · rw [ku_ne e1]
            by_cases e0 : j = 34 + 9 * a
            · rw [e0, ku_eq]
            · rw [ku_ne e0, g2 j j0 j1 nw]
              unfold sWalk
              rw [ku_ne (fun e => nw a a6.1 a6.2 e), ku_ne e1, ku_ne e0]
              exact gu j j0 j1 nw
        have fr : kfm (fun x => flA x ∨ x = 86) (kup (kup s2 (31 + 6 + a) 1 (u (34 + 9 * a))) (31 + 6 + a) 2 (u (34 + 9 * a + 1))) σ := (kfm_kup (Or.inl (Or.inl ⟨by omega, by omega⟩))).trans ((kfm_kup (Or.inl (Or.inl ⟨by omega, by omega⟩))).trans (fb.trans ((fa.wide (fun x e => Or.inl (Or.inl (by omega)))).trans f1)))
        have o86 : ∀ i, (m : Int) < i → (kup (kup s2 (31 + 6 + a) 1 (u (34 + 9 * a))) (31 + 6 + a) 2 (u (34 + 9 * a + 1))) 86 i = z.2 86 i := fun i hi => by
          rw [kup_x (by omega), kup_x (by omega), oi i hi, fa 86 (by omega)]
        refine ⟨by omega, by rw [z1]; omega, fun le => ?_, fun lt => ⟨by omega, ?_⟩⟩
        · rw [z1] at le
          refine jh (z.1, _) ?_
          have Fs2 : kfor F (k + 1) (-64, 0) = kfor F k (-64, 0) := by rw [Fs]; exact kif_f (by omega)
          rw [Fs2]
          refine ⟨z1, ⟨_, g4, k4⟩, fr, fun _ => ?_, fun i hi => (o86 i (by omega)).trans (ot i hi)⟩
          by_cases e : k = 0
          · subst e
            have : (kfor F 0 (-64, 0)).1 = -64 := rfl
            omega
          · show (kup (kup s2 _ _ _) _ _ _) 86 ((m + 1 : Nat) : Int) = _
            rw [o86 _ (by omega)]; exact st (by omega)
        · rw [z1] at lt
          have Fs2 : kfor F (k + 1) (-64, 0) = (-(sDuel m b a (sWalk u a k)).1, (k : Int)) := by rw [Fs]; exact kif_t (by omega)
          refine jh (-(sDuel m b a (sWalk u a k)).1, kup (kup (kup s2 (31 + 6 + a) 1 (u (34 + 9 * a))) (31 + 6 + a) 2 (u (34 + 9 * a + 1))) 86 ((m + 1 : Nat) : Int) (k : Int)) ?_
          rw [Fs2]
          refine ⟨rfl, ⟨_, g4, ?_⟩, ?_, fun _ => ?_, fun i hi => ?_⟩
          · exact kco_kfm (kgw_wf w g4) k4 kfm_at (fun x p q e => by omega)
          · exact (kfm_kup (Or.inr rfl)).trans fr
          · exact kup_at
          · show kup _ 86 ((m + 1 : Nat) : Int) (k : Int) 86 i = _
            rw [kup_j (by omega), o86 i (by omega)]; exact ot i hi
theorem P_X5_seekDuel {G : Kg} {σ : Kmem} {a b n : Int} {v : Int → Int} (p : (wf v ∧ kco σ 31 v) ∧ (sKt v a ∧ sKt v b) ∧ (0 ≤ n ∧ n ≤ 4)) : Run G WX M_X5_seekDuel 21 0 0 [vA G 82, vI a, vI b, vI n] σ (fun x s => x = 0 ∧ kfm (fun x => flA x ∨ x = 82 ∨ x = 86) s σ ∧ (∀ j, j ≠ 12 → s 82 j = σ 82 j) ∧ s 82 12 = (sDuel n.toNat a b v).1 ∧ (1 ≤ n → s 86 n = (sDuel n.toNat a b v).2)) := by
  obtain ⟨hu, hk, hn⟩ := p
  have := P_X5_playOut (G := G) n.toNat 20 a b σ v (by omega) (by omega) hu hk
  rw [show ((n.toNat : Nat) : Int) = n by omega] at this
  refine S_X5_seekDuel (Run.mono this (fun x s z => ?_))
  obtain ⟨rfl, -, f, st, -⟩ := z
  exact ⟨rfl, (kfm_kup (Or.inr (Or.inl rfl))).trans (f.wide (fun x e => by rcases e with e | e; exact Or.inl e; exact Or.inr (Or.inr e))), fun j hj => by rw [kup_j hj, f 82 (by omega)], kup_at, fun h => by rw [kup_x (by omega)]; exact st (by omega)⟩
