/-! the reference's duels -/
def duM (a b d : Int) : Int := if d % 2 = 0 then a else b
def duV (d x : Int) : Int := if d % 2 = 0 then x else -x
def dF (d : Int) (s t : Kmem) : Prop := (∀ x, x ≠ 0 → x ≠ 1 → ¬ (14 ≤ x ∧ x ≤ 17) → s x = t x) ∧ (∀ j, j ≠ 34 → s 0 j = t 0 j) ∧ (d ≠ 0 → s 0 34 = t 0 34) ∧ (∀ x, 14 ≤ x → x ≤ 17 → ∀ i, 0 ≤ i → i < d → s x i = t x i) ∧ kfar (s 1) (t 1)
theorem dF.refl {d : Int} {s : Kmem} : dF d s s := ⟨fun _ _ _ _ => rfl, fun _ _ => rfl, fun _ => rfl, fun _ _ _ _ _ _ => rfl, kfar.refl⟩
theorem dF.trans {d : Int} {s t u : Kmem} (h : dF d s t) (g : dF d t u) : dF d s u :=
  ⟨fun x a b c => (h.1 x a b c).trans (g.1 x a b c), fun j a => (h.2.1 j a).trans (g.2.1 j a), fun a => (h.2.2.1 a).trans (g.2.2.1 a), fun x a b i c e => (h.2.2.2.1 x a b i c e).trans (g.2.2.2.1 x a b i c e), h.2.2.2.2.trans g.2.2.2.2⟩
theorem dF.down {d : Int} {s t : Kmem} (hd : 0 ≤ d) (h : dF (d + 1) s t) : dF d s t := ⟨h.1, h.2.1, fun _ => h.2.2.1 (by omega), fun x a b i c e => h.2.2.2.1 x a b i c (by omega), h.2.2.2.2⟩
theorem dF_arr {d x i y : Int} {s : Kmem} (hx : 14 ≤ x ∧ x ≤ 17) (hi : d ≤ i) : dF d (kup s x i y) s :=
  ⟨fun z a b c => by funext k; exact kup_x (fun e => c (by omega)), fun j a => kup_x (by omega), fun a => kup_x (by omega), fun z a b k c e => kup_j (by omega), fun j a => by rw [kup_x (by omega)]⟩
theorem dF_at {d : Int} {s : Kmem} {v : Int → Int} (h : kfar v (s 1)) : dF d (kst s 1 v) s :=
  ⟨fun z a b c => kst_ne b, fun j a => by rw [kst_ne (by omega)], fun a => by rw [kst_ne (by omega)], fun z a b k c e => by rw [kst_ne (by omega)], by rw [kst_eq]; exact h⟩
theorem dF_34 {y : Int} {s : Kmem} : dF 0 (kup s 0 34 y) s :=
  ⟨fun z a b c => by funext k; exact kup_x a, fun j a => kup_j a, fun a => absurd rfl a, fun z a b k c e => by omega, fun j a => by rw [kup_x (by omega)]⟩
/-- the folding of steps -/
noncomputable def sDF (m : Nat) (a b : Int) (v : Int → Int) (s : Int) (y : Int × Int) : Int × Int := kif (sMay v a s) (sUpd (-(sDuel m b a (sWalk v a s)).1) s y) y
theorem sDF_val {m : Nat} {a b : Int} {v : Int → Int} {s : Int} (w : wf v) (ha : sKt v a) (hb : sKt v b) (hs : sMay v a s) : -63 ≤ -(sDuel m b a (sWalk v a s)).1 ∧ -(sDuel m b a (sWalk v a s)).1 ≤ 63 := by
  have ok := sWalk_ok w ha hs
  have e2 : sWalk v a s 2 = v 2 := ok.2.1 2 (by omega) (by omega)
  have := sDuel_r m b a (sWalk v a s) ok.1 ⟨hb.1, by rw [e2]; exact hb.2⟩ ⟨ha.1, by rw [e2]; exact ha.2⟩
  omega
theorem sDF_init {m : Nat} {a b x : Int} {v : Int → Int} (w : wf v) (ha : sKt v a) (hb : sKt v b) : ∀ k : Nat, kfor (sDF m a b v) (k + 1) (-1000000, x) = kfor (sDF m a b v) (k + 1) (-64, 0)
  | 0 => by
    show sDF m a b v ((0 : Nat) : Int) (-1000000, x) = sDF m a b v ((0 : Nat) : Int) (-64, 0)
    have m0 : sMay v a ((0 : Nat) : Int) := may_0 w ha
    have := sDF_val (m := m) w ha hb m0
    unfold sDF
    rw [kif_t m0, kif_t m0]
    unfold sUpd
    rw [kif_t (by show -1000000 < _; omega), kif_t (by show -64 < _; omega)]
  | k + 1 => by
    show sDF m a b v ((k + 1 : Nat) : Int) (kfor (sDF m a b v) (k + 1) (-1000000, x)) = sDF m a b v ((k + 1 : Nat) : Int) (kfor (sDF m a b v) (k + 1) (-64, 0))
    rw [sDF_init w ha hb k]
theorem sDF_r {m : Nat} {a b : Int} {v : Int → Int} (w : wf v) (ha : sKt v a) (hb : sKt v b) (k : Nat) : -1000000 ≤ (kfor (sDF m a b v) k (-1000000, 0)).1 ∧ (kfor (sDF m a b v) k (-1000000, 0)).1 ≤ 63 := by
  refine kfor_inv (P := fun _ (y : Int × Int) => -1000000 ≤ y.1 ∧ y.1 ≤ 63) ⟨by show (-1000000 : Int) ≤ -1000000; omega, by show (-1000000 : Int) ≤ 63; omega⟩ k (fun i y hi h => ?_)
  unfold sDF
  by_cases q : sMay v a i
  · rw [kif_t q]
    have := (sUpd_le (F := -(sDuel m b a (sWalk v a i)).1) (code := i) (a := y)).1
    exact ⟨by omega, sUpd_r (sDF_val w ha hb q) h.2⟩
  · rw [kif_f q]; exact h
theorem duel_loop {G : Kg} {a b : Int} {n : Nat} {Q : Int → Kmem → Prop} (hn : n ≤ 4) : ∀ (m d : Nat) (τ : Kmem) (u : Int → Int), d + m = n → wf u → (sKt u a ∧ sKt u b) → kgw (τ 1) u → τ 14 d = -1 → τ 15 d = -1000000 →
    (∀ s, kgw (s 1) u → dF d s τ → (d = 0 → 1 ≤ m → s 0 34 = (sDuel m a b u).2) → (d = 0 → Q (duV d (sDuel m (duM a b d) (duM b a d) u).1) s) ∧ (0 < d → E_X12_duelOf_222 G a b n ((d : Int) - 1) (duV d (sDuel m (duM a b d) (duM b a d) u).1) (duM a b ((d : Int) - 1)) s Q)) →
    E_X12_duelOf_19 G a b n d τ Q := by
  intro m
  induction m with
  | zero =>
    intro d τ u hd w hk g t14 t15 ret
    have w1 := wf_h w
    have wt := kgw_wf w g
    have wt1 := wf_h wt
    have e7 := kgw_7 g
    have hdn : (d : Int) = n := by omega
    have est : ∀ k, sEst (τ 1) k (τ 1 7 % 12) = sEst u k (u 7 % 12) := fun k => by rw [e7]; exact kgeo_est w (kgw_geo w g) ⟨by omega, by omega⟩
    have rt := ret τ g dF.refl (fun _ h => absurd h (by omega))
    have ev : duV d (sDuel 0 (duM a b d) (duM b a d) u).1 = sEst u a (u 7 % 12) - sEst u b (u 7 % 12) := by
      unfold duV duM sDuel
      by_cases e : (d : Int) % 2 = 0
      · rw [if_pos e, if_pos e, if_pos e]
      · rw [if_neg e, if_neg e, if_neg e]
        show -(_ - _) = _
        omega
    rw [ev] at rt
    have last : E_X12_duelOf_115 G a b n d 0 τ Q := by
      refine S_X12_duelOf_115 ⟨by decide, fun _ => ⟨by omega, by omega, fun h => absurd hdn h, fun _ => ⟨by omega, ⟨wt, by have := hk.1; omega, by omega, by omega⟩, by omega, ⟨wt, by have := hk.2; omega, by omega, by omega⟩, fun dn => ?_, fun d0 => ?_⟩⟩, fun h => absurd rfl h⟩
      · rw [est, est]
        have rt := rt.2 (by omega)
        refine ⟨by omega, by omega, fun h => ?_, fun h => ?_⟩
        · have e : duM a b ((d : Int) - 1) = b := if_neg (by omega)
          rw [e] at rt; exact rt
        · have e : duM a b ((d : Int) - 1) = a := if_pos (by omega)
          rw [e] at rt; exact rt
      · rw [est, est]
        exact rt.1 (by omega)
    refine S_X12_duelOf_19 ⟨by omega, by omega, fun h => ?_, fun h => ?_⟩
    · exact S_X12_duelOf_36 ⟨by omega, by omega, fun _ => last, fun h => by omega⟩
    · exact S_X12_duelOf_36 ⟨by omega, by omega, fun _ => last, fun h => by omega⟩
  | succ m ih =>
    intro d τ u hd w hk g t14 t15 ret
    have w1 := wf_h w
    obtain ⟨ha, hb⟩ := hk
    have ha1 := ha.1
    have ha2 := ha.2
    have hb1 := hb.1
    have hb2 := hb.2
    have hM : sKt u (duM a b d) ∧ sKt u (duM b a d) := by unfold duM; split <;> exact ⟨by assumption, by assumption⟩
    generalize hA : duM a b d = A at *
    generalize hB : duM b a d = B at *
    obtain ⟨hMA, hMB⟩ := hM
    have hA1 := hMA.1
    have hA2 := hMA.2
    have A6 : 0 ≤ A ∧ A < 6 := by omega
    have fin : kfor (sDF m A B u) 5 (-1000000, 0) = sDuel (m + 1) A B u := sDF_init w hMA hMB 4
    have d4 : (d : Int) < 5 := by omega
    -- the steps one by one
    have steps : ∀ (r k : Nat) (s : Kmem), k + r = 5 → kgw (s 1) u → dF d s τ → s 14 d = (k : Int) - 1 → s 15 d = (kfor (sDF m A B u) k (-1000000, 0)).1 → (d = 0 → 1 ≤ k → s 0 34 = (kfor (sDF m A B u) k (-1000000, 0)).2) → E_X12_duelOf_36 G a b n d A 0 s Q := by
      intro r
      induction r with
      | zero =>
        intro k s hkr gs fs s14 s15 s34
        have e5 : k = 5 := by omega
        subst e5
        rw [fin] at s15 s34
        have rt := ret s gs fs (fun h _ => by
          have := s34 h (by omega)
          have eA : A = a := by rw [← hA, h]; rfl
          have eB : B = b := by rw [← hB, h]; rfl
          rw [eA, eB] at this; exact this)
        have vr := sDuel_r (m + 1) A B u w hMA hMB
        refine S_X12_duelOf_36 ⟨by omega, by omega, fun h => by omega, fun _ => ⟨by decide, fun h => absurd rfl h, fun _ => ⟨by omega, by omega, fun _ => ?_, fun h => by omega⟩⟩⟩
        refine S_X12_duelOf_115 ⟨by decide, fun _ => ⟨by omega, by omega, fun _ => ⟨by omega, by omega, fun od => ⟨by omega, fun dn => ⟨by omega, by omega, fun h => ?_, fun h => ?_⟩, fun d0 => by omega⟩, fun ev => ⟨by omega, fun dn => ⟨by omega, by omega, fun h => ?_, fun h => ?_⟩, fun d0 => ?_⟩⟩, fun h => by omega⟩, fun h => absurd rfl h⟩
        · omega
        · have rt := rt.2 (by omega)
          have e : duM a b ((d : Int) - 1) = a := if_pos (by omega)
          have e2 : duV d (sDuel (m + 1) A B u).1 = -(sDuel (m + 1) A B u).1 := if_neg od
          rw [e, e2] at rt; rw [s15]; exact rt
        · have rt := rt.2 (by omega)
          have e : duM a b ((d : Int) - 1) = b := if_neg (by omega)
          have e2 : duV d (sDuel (m + 1) A B u).1 = (sDuel (m + 1) A B u).1 := if_pos ev
          rw [e, e2] at rt; rw [s15]; exact rt
        · omega
        · have rt := rt.1 (by omega)
          have e2 : duV d (sDuel (m + 1) A B u).1 = (sDuel (m + 1) A B u).1 := if_pos ev
          rw [e2] at rt; rw [s15]; exact rt
      | succ r jh =>
        intro k s hkr gs fs s14 s15 s34
        have ws := kgw_wf w gs
        have es2 : s 1 2 = u 2 := kgw_hd gs 2 (by omega) (by omega)
        refine S_X12_duelOf_36 ⟨by omega, by omega, fun h => by omega, fun _ => ⟨by decide, fun h => absurd rfl h, fun _ => ⟨by omega, by omega, fun h => by omega, fun _ => ⟨by omega, by omega, fun p1 e1 => ⟨by omega, by omega, fun p2 e2 => ⟨by omega, by omega, fun p3 e3 => ?_⟩⟩⟩⟩⟩⟩
        have q1 : p3 1 = s 1 := by rw [e3, e2, e1]; funext j; rw [kup_x (by omega), kup_x (by omega), kup_x (by omega)]
        have q14 : p3 14 d = k := by rw [e3, e2, e1, kup_x (by omega), kup_x (by omega), kup_at]; omega
        have q15 : p3 15 d = s 15 d := by rw [e3, e2, e1, kup_x (by omega), kup_x (by omega), kup_x (by omega)]
        have q0 : p3 0 34 = s 0 34 := by rw [e3, e2, e1, kup_x (by omega), kup_x (by omega), kup_x (by omega)]
        have q16 : p3 16 d = s 1 (34 + 9 * A) := by
          rw [e3, kup_x (by omega), e2, kup_at, e1, kup_x (by omega)]; congr 1; omega
        have q17 : p3 17 d = s 1 (34 + 9 * A + 1) := by
          rw [e3, kup_at, e2, e1, kup_x (by omega), kup_x (by omega)]
        have fp : dF d p3 s := by rw [e3, e2, e1]; exact (dF_arr (by omega) (by omega)).trans ((dF_arr (by omega) (by omega)).trans (dF_arr (by omega) (by omega)))
        rw [q1, q14]
        refine ⟨by omega, ⟨ws, ⟨hA1, by omega⟩, by omega⟩, ?_⟩
        have may := kgw_may (s := (k : Int)) gs A6
        have Fs : kfor (sDF m A B u) (k + 1) (-1000000, 0) = kif (sMay u A k) (sUpd (-(sDuel m B A (sWalk u A k)).1) k (kfor (sDF m A B u) k (-1000000, 0))) (kfor (sDF m A B u) k (-1000000, 0)) := rfl
        by_cases yes1 : sMay (s 1) A k
        · have yes := may.1 yes1
          rw [kb_1 yes1, kif_t yes1]
          rw [kif_t yes] at Fs
          have ok := sWalk_ok w hMA yes
          have ok1 := sWalk_ok ws ⟨hA1, by omega⟩ yes1
          have gw := kgw_walk (s := (k : Int)) gs A6
          have w2 : sWalk (s 1) A k 2 = u 2 := by rw [ok1.2.1 2 (by omega) (by omega), es2]
          have w2' : sWalk u A k 2 = u 2 := ok.2.1 2 (by omega) (by omega)
          refine S_X12_duelOf_36 ⟨by omega, by omega, fun h => by omega, fun _ => ⟨by decide, fun _ => ?_, fun h => absurd h (by decide)⟩⟩
          refine S_X12_duelOf_115 ⟨by decide, fun h => absurd h (by decide), fun _ => ⟨by omega, fun z1 y1 => ⟨by omega, fun z2 y2 => ?_⟩⟩⟩
          have z21 : z2 1 = sWalk (s 1) A k := by rw [y2, y1]; funext j; rw [kup_x (by omega), kup_x (by omega), kst_eq]
          have fz : dF ((d : Int) + 1) z2 (kst p3 1 (sWalk (s 1) A k)) := by rw [y2, y1]; exact (dF_arr (by omega) (by omega)).trans (dF_arr (by omega) (by omega))
          have fw : dF d (kst p3 1 (sWalk (s 1) A k)) p3 := dF_at (by rw [q1]; exact ok1.2.2)
          have := ih (d + 1) z2 (sWalk (s 1) A k) (by omega) ok1.1 ⟨⟨ha1, by omega⟩, ⟨hb1, by omega⟩⟩ (by rw [z21]; exact kgw.refl) (by rw [y2, y1, kup_x (by omega)]; exact kup_at) (by rw [y2]; exact kup_at) (fun t gt ft _ => ⟨fun h => by omega, fun _ => ?_⟩)
          · exact this
          -- back from the other's turns
          have eD : ((d + 1 : Nat) : Int) - 1 = d := by omega
          rw [eD, hA]
          have eM : duM a b ((d + 1 : Nat) : Int) = B ∧ duM b a ((d + 1 : Nat) : Int) = A := by
            rw [← hA, ← hB]; unfold duM
            by_cases e : (d : Int) % 2 = 0
            · rw [if_pos e, if_pos e, if_neg (by omega), if_neg (by omega)]; exact ⟨rfl, rfl⟩
            · rw [if_neg e, if_neg e, if_pos (by omega), if_pos (by omega)]; exact ⟨rfl, rfl⟩
          rw [eM.1, eM.2, kgw_duel m B A _ _ gw ok.1 ⟨hMB.1, by rw [w2']; exact hMB.2⟩ ⟨hA1, by rw [w2']; exact hA2⟩]
          have vv := sDF_val (m := m) w hMA hMB yes
          have br := sDF_r (m := m) w hMA hMB k
          have ft' : dF ((d : Int) + 1) t (kst p3 1 (sWalk (s 1) A k)) := ft.trans fz
          have t16 : t 16 d = s 1 (34 + 9 * A) := by rw [ft'.2.2.2.1 16 (by omega) (by omega) d (by omega) (by omega), kst_ne (by omega), q16]
          have t17 : t 17 d = s 1 (34 + 9 * A + 1) := by rw [ft'.2.2.2.1 17 (by omega) (by omega) d (by omega) (by omega), kst_ne (by omega), q17]
          have t14' : t 14 d = k := by rw [ft'.2.2.2.1 14 (by omega) (by omega) d (by omega) (by omega), kst_ne (by omega), q14]
          have t15' : t 15 d = s 15 d := by rw [ft'.2.2.2.1 15 (by omega) (by omega) d (by omega) (by omega), kst_ne (by omega), q15]
          have t34 : t 0 34 = s 0 34 := by rw [ft'.2.2.1 (by omega), kst_ne (by omega), q0]
          refine S_X12_duelOf_222 ⟨by omega, by omega, fun r1 x1 => ⟨by omega, by omega, fun r2 x2 => ?_⟩⟩
          have r21 : r2 1 = ku (ku (t 1) (34 + 9 * A) (s 1 (34 + 9 * A))) (34 + 9 * A + 1) (s 1 (34 + 9 * A + 1)) := by
            rw [x2, x1, kup_x (z := 17) (by omega), t16, t17]
            rw [kup_k, kst_eq, kup_k, kst_eq]
          have r2o : ∀ x, x ≠ 1 → r2 x = t x := fun x hx => by rw [x2, x1]; funext j; rw [kup_x hx, kup_x hx]
          have gr : kgw (r2 1) u := by
            rw [r21]
            intro j j0 j1 nw
            by_cases e1 : j = 34 + 9 * A + 1
            · rw [e1, ku_eq]; exact gs _ (by omega) (by omega) (by omega)
            · rw [ku_ne e1]
              by_cases e0 : j = 34 + 9 * A
              · rw [e0, ku_eq]; exact gs _ (by omega) (by omega) (by omega)
              · rw [ku_ne e0, gt j j0 j1 nw]
                unfold sWalk
                rw [ku_ne (fun e => nw A A6.1 A6.2 e), ku_ne e1, ku_ne e0]
                exact gs j j0 j1 nw
          have fr : dF d r2 τ := by
            have f1 : dF d r2 t := ⟨fun x _ b _ => r2o x b, fun j _ => by rw [r2o 0 (by omega)], fun _ => by rw [r2o 0 (by omega)], fun x _ _ i _ _ => by rw [r2o x (by omega)], by rw [r21]; exact (kfar_ku (by omega)).trans (kfar_ku (by omega))⟩
            exact f1.trans ((ft'.down (by omega)).trans (fw.trans (fp.trans fs)))
          have r15 : r2 15 d = (kfor (sDF m A B u) k (-1000000, 0)).1 := by rw [r2o 15 (by omega), t15', s15]
          have next19 : ∀ s', kgw (s' 1) u → dF d s' τ → s' 14 d = (k : Int) → s' 15 d = (kfor (sDF m A B u) (k + 1) (-1000000, 0)).1 → (d = 0 → s' 0 34 = (kfor (sDF m A B u) (k + 1) (-1000000, 0)).2) → E_X12_duelOf_19 G a b n d s' Q := by
            intro s' g' f' h14 h15 h34
            have nx := jh (k + 1) s' (by omega) g' f' (by omega) h15 (fun h _ => h34 h)
            refine S_X12_duelOf_19 ⟨by omega, by omega, fun h => ?_, fun h => ?_⟩
            · have e : A = b := by rw [← hA]; exact if_neg h
              rw [e] at nx; exact nx
            · have e : A = a := by rw [← hA]; exact if_pos h
              rw [e] at nx; exact nx
          have way : ∀ x : Int, x = -(sDuel m B A (sWalk u A k)).1 → (r2 15 d < x → ∀ s1 : Kmem, s1 = kup r2 15 d x → (((d : Int) ≠ 0 → E_X12_duelOf_19 G a b n d s1 Q) ∧ ((d : Int) = 0 → ∀ s2 : Kmem, s2 = kup s1 0 34 (s1 14 0) → E_X12_duelOf_19 G a b n d s2 Q))) ∧ (x ≤ r2 15 d → E_X12_duelOf_19 G a b n d r2 Q) := by
            intro x hx
            subst hx
            refine ⟨fun lt s1 h1 => ?_, fun le => ?_⟩
            · rw [r15] at lt
              have Fs2 : kfor (sDF m A B u) (k + 1) (-1000000, 0) = (-(sDuel m B A (sWalk u A k)).1, (k : Int)) := by rw [Fs]; exact kif_t lt
              have s11 : s1 1 = r2 1 := by rw [h1]; funext j; exact kup_x (by omega)
              have s114 : s1 14 d = k := by rw [h1, kup_x (by omega), r2o 14 (by omega), t14']
              refine ⟨fun dn => next19 s1 (by rw [s11]; exact gr) (by rw [h1]; exact (dF_arr (by omega) (by omega)).trans fr) s114 (by rw [Fs2, h1]; exact kup_at) (fun h => by omega), fun d0 s2 h2 => ?_⟩
              have d0' : d = 0 := by omega
              subst d0'
              refine next19 s2 ?_ ?_ ?_ ?_ (fun _ => ?_)
              · rw [h2]; have : (kup s1 0 34 (s1 14 0)) 1 = s1 1 := by funext j; exact kup_x (by omega)
                rw [this, s11]; exact gr
              · rw [h2, h1]; exact dF_34.trans ((dF_arr (by omega) (by omega)).trans fr)
              · rw [h2, kup_x (by omega)]; exact s114
              · rw [h2, kup_x (by omega), Fs2, h1]; exact kup_at
              · rw [h2, kup_at, Fs2]; exact s114
            · rw [r15] at le
              have Fs2 : kfor (sDF m A B u) (k + 1) (-1000000, 0) = kfor (sDF m A B u) k (-1000000, 0) := by rw [Fs]; exact kif_f (by omega)
              refine next19 r2 gr fr (by rw [r2o 14 (by omega), t14']) (by rw [r15, Fs2]) (fun h => ?_)
              rw [r2o 0 (by omega), t34, Fs2]
              by_cases k0 : k = 0
              · subst k0
                have : (kfor (sDF m A B u) 0 (-1000000, 0)).1 = -1000000 := rfl
                omega
              · exact s34 h (by omega)
          refine ⟨by omega, by omega, fun od => ?_, fun ev => ?_⟩
          · have eV : duV ((d + 1 : Nat) : Int) (sDuel m B A (sWalk u A k)).1 = (sDuel m B A (sWalk u A k)).1 := if_pos (by omega)
            rw [eV]
            have wy := way _ rfl
            exact ⟨by omega, by omega, by rw [r15]; omega, fun lt => ⟨by omega, fun s1 h1 => ⟨by omega, wy.1 lt s1 h1⟩⟩, wy.2⟩
          · have eV : duV ((d + 1 : Nat) : Int) (sDuel m B A (sWalk u A k)).1 = -(sDuel m B A (sWalk u A k)).1 := if_neg (by omega)
            rw [eV]
            have wy := way _ rfl
            exact ⟨by omega, by omega, by rw [r15]; omega, fun lt => ⟨by omega, fun s1 h1 => ⟨by omega, wy.1 lt s1 h1⟩⟩, wy.2⟩
        · have no : ¬ sMay u A k := fun y => yes1 (may.2 y)
          rw [kb_0 yes1, kif_f yes1]
          rw [kif_f no] at Fs
          have ep : kst p3 1 (s 1) = p3 := by rw [← q1]; exact kst_id
          rw [ep]
          refine jh (k + 1) p3 (by omega) (by rw [q1]; exact gs) (fp.trans fs) (by rw [q14]; omega) (by rw [q15, s15, Fs]) (fun h _ => ?_)
          rw [q0, Fs]
          by_cases k0 : k = 0
          · subst k0; exact absurd (may_0 w hMA) no
          · exact s34 h (by omega)
    have go := steps 5 0 τ (by omega) g dF.refl (by rw [t14]; rfl) (by rw [t15]; rfl) (fun _ h => by omega)
    refine S_X12_duelOf_19 ⟨by omega, by omega, fun h => ?_, fun h => ?_⟩
    · have e : A = b := by rw [← hA]; exact if_neg h
      rw [e] at go; exact go
    · have e : A = a := by rw [← hA]; exact if_pos h
      rw [e] at go; exact go
theorem P_X12_duelOf {G : Kg} {σ : Kmem} {a b n : Int} (p : wf (σ 1) ∧ (sKt (σ 1) a ∧ sKt (σ 1) b) ∧ (0 ≤ n ∧ n ≤ 4)) : Run G WM M_X12_duelOf 8 0 0 [vA G 0, vI a, vI b, vI n] σ (fun x s => x = (sDuel n.toNat a b (σ 1)).1 ∧ kgw (s 1) (σ 1) ∧ dF 0 s σ ∧ (1 ≤ n → s 0 34 = (sDuel n.toNat a b (σ 1)).2)) := by
  obtain ⟨w, hk, hn⟩ := p
  refine S_X12_duelOf (fun s1 e1 s3 e3 => ?_)
  have s31 : s3 1 = σ 1 := by rw [e3, e1]; funext j; rw [kup_x (by omega), kup_x (by omega)]
  have f3 : dF 0 s3 σ := by rw [e3, e1]; exact (dF_arr (by omega) (by omega)).trans (dF_arr (by omega) (by omega))
  have := duel_loop (G := G) (a := a) (b := b) (n := n.toNat) (Q := (fun x s => x = (sDuel n.toNat a b (σ 1)).1 ∧ kgw (s 1) (σ 1) ∧ dF 0 s σ ∧ (1 ≤ n → s 0 34 = (sDuel n.toNat a b (σ 1)).2))) (by omega) n.toNat 0 s3 (σ 1) (by omega) w hk (by rw [s31]; exact kgw.refl) (by rw [e3, e1, kup_x (by omega)]; exact kup_at) (by rw [e3]; exact kup_at) (fun t gt ft ht => ⟨fun _ => ⟨rfl, gt, ft.trans f3, fun h => ht rfl (by omega)⟩, fun h => by omega⟩)
  rw [show ((n.toNat : Nat) : Int) = n by omega] at this
  exact this
theorem P_X12_duelled {G : Kg} {σ : Kmem} {a b n : Int} (p : wf (σ 1) ∧ (sKt (σ 1) a ∧ sKt (σ 1) b) ∧ (0 ≤ n ∧ n ≤ 4)) : Run G WM M_X12_duelled 9 0 0 [vA G 0, vI a, vI b, vI n] σ (fun x s => x = (sDuel n.toNat a b (sKeep (σ 1) 3084)).1 ∧ s 1 = sKeep (σ 1) 3084 ∧ (∀ x, x ≠ 0 → x ≠ 1 → ¬ (14 ≤ x ∧ x ≤ 17) → s x = σ x) ∧ (∀ j, j ≠ 34 → s 0 j = σ 0 j) ∧ (1 ≤ n → s 0 34 = (sDuel n.toNat a b (sKeep (σ 1) 3084)).2)) := by
  obtain ⟨w, hk, hn⟩ := p
  have wk := wf_keep (to := 3084) w (by omega)
  have e2 : sKeep (σ 1) 3084 2 = σ 1 2 := if_neg (by omega)
  refine S_X12_duelled ⟨by omega, Run.mono (P_X12_duelOf (by rw [kst_eq]; exact ⟨wk, ⟨⟨hk.1.1, by rw [e2]; exact hk.1.2⟩, ⟨hk.2.1, by rw [e2]; exact hk.2.2⟩⟩, hn⟩)) (fun x s z => ⟨by omega, ?_⟩)⟩
  rw [kst_eq] at z
  obtain ⟨rfl, gz, fz, hz⟩ := z
  have far := fz.2.2.2.2
  rw [kst_eq] at far
  refine ⟨rfl, ?_, fun x a b c => ?_, fun j hj => ?_, fun h => ?_⟩
  · rw [kst_eq]; exact sRest_keep far (by omega)
  · rw [kst_ne b, fz.1 x a b c, kst_ne b]
  · rw [kst_ne (by omega), fz.2.1 j hj, kst_ne (by omega)]
  · rw [kst_ne (by omega)]; exact hz h
