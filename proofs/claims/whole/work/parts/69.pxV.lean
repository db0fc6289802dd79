/-! plans: flights -/
abbrev flA (x : Int) : Prop := (31 ≤ x ∧ x < 57) ∨ (58 ≤ x ∧ x ≤ 63)
/-- the digits of a code lie in a row -/
def sDig (f : Int → Int) (n : Nat) (code : Int) : Prop := ∀ i : Nat, i < n → f i = code / 5 ^ (n - 1 - i) % 5
theorem sDig_s {f : Int → Int} {n : Nat} {p d : Int} (h : sDig f n p) (hd : 0 ≤ d ∧ d < 5) : sDig (ku f n d) (n + 1) (p * 5 + d) := by
  intro i hi
  by_cases e : i = n
  · subst e
    rw [ku_eq, show i + 1 - 1 - i = 0 by omega, Int.pow_zero, Int.ediv_one]; omega
  · rw [ku_ne (by omega), h i (by omega), show n + 1 - 1 - i = (n - 1 - i) + 1 by omega, Int.pow_succ, Int.mul_comm (5 ^ (n - 1 - i)) 5, ← Int.ediv_ediv_of_nonneg (by decide), show (p * 5 + d) / 5 = p by omega]
theorem sDig_c {f g : Int → Int} {n : Nat} {p : Int} (h : sDig f n p) (e : ∀ i : Int, 0 ≤ i → i < n → g i = f i) : sDig g n p := fun i hi => by rw [e i (by omega) (by omega)]; exact h i hi
theorem P_X5_tryFlight {G : Kg} {kite c r : Int} {n : Nat} (hn : n ≤ 5) (hk0 : 0 ≤ kite ∧ kite < 6) (hc0 : 0 ≤ c ∧ c < 9) (hr0 : 0 ≤ r ∧ r < 7) : ∀ (m d : Nat) (done : Nat) (σ : Kmem) (u : Int → Int) (its p : Int) (b : Int × Int),
    done + m = n → 12 + m ≤ d → (wf u ∧ kco σ 31 u) → (sKt u kite ∧ sFld u c r ∧ u 7 + m ≤ 30000) → (σ 82 6 = n ∧ σ 82 9 = kite ∧ σ 82 10 = c ∧ σ 82 11 = r) → σ 82 7 = b.1 → (-1 ≤ b.1 ∧ b.1 ≤ 10) → (0 ≤ its ∧ its ≤ done) → sDig (σ 85) done p → (0 ≤ b.1 → sDig (σ 84) n b.2) →
    Run G WX M_X5_tryFlight d 0 0 [vA G 82, vI done, vI its] σ (fun x s => x = 0 ∧ ∃ u2, (kgw u2 u ∧ kco s 31 u2) ∧ kfm (fun x => flA x ∨ x = 82 ∨ x = 84 ∨ x = 85) s σ ∧ (∀ j, j ≠ 7 → s 82 j = σ 82 j) ∧ (∀ i : Int, 0 ≤ i → i < done → s 85 i = σ 85 i) ∧ s 82 7 = (sFF kite c r m p u its b).1 ∧ (0 ≤ (sFF kite c r m p u its b).1 → sDig (s 84) n (sFF kite c r m p u its b).2)) := by
  have hc : isC 31 := Or.inr (Or.inl rfl)
  intro m
  induction m with
  | zero =>
    intro d done σ u its p b hm hd hu hk h82 hb7 hb hits hdig hfl
    obtain ⟨w, kk⟩ := hu
    have hdn : (done : Int) = n := by omega
    have leaf : b.1 < its → (((0 : Int) ≤ 0 ∧ (0 : Int) ≤ 0 ∧ (0 : Int) ≤ done) ∧ (0 : Int) + done ≤ 5 ∧ (0 : Int) + done ≤ 5) ∧ ((0 : Int) = 0 ∧ ∃ u2, (kgw u2 u ∧ kco (kcpy (kup σ 82 7 its) 85 0 84 0 done) 31 u2) ∧ kfm (fun x => flA x ∨ x = 82 ∨ x = 84 ∨ x = 85) (kcpy (kup σ 82 7 its) 85 0 84 0 done) σ ∧ (∀ j, j ≠ 7 → (kcpy (kup σ 82 7 its) 85 0 84 0 done) 82 j = σ 82 j) ∧ (∀ i : Int, 0 ≤ i → i < done → (kcpy (kup σ 82 7 its) 85 0 84 0 done) 85 i = σ 85 i) ∧ (kcpy (kup σ 82 7 its) 85 0 84 0 done) 82 7 = (sFF kite c r 0 p u its b).1 ∧ (0 ≤ (sFF kite c r 0 p u its b).1 → sDig ((kcpy (kup σ 82 7 its) 85 0 84 0 done) 84) n (sFF kite c r 0 p u its b).2)) := by
      intro lt
      have f : kfm (fun x => x = 84) (kcpy (kup σ 82 7 its) 85 0 84 0 done) (kup σ 82 7 its) := fun x hx => by funext j; exact if_neg (fun q => hx q.1)
      have fr : kfm (fun x => flA x ∨ x = 82 ∨ x = 84 ∨ x = 85) (kcpy (kup σ 82 7 its) 85 0 84 0 done) σ := (f.wide (fun x e => Or.inr (Or.inr (Or.inl e)))).trans (kfm_kup (Or.inr (Or.inl rfl)))
      rw [sFF_0, kif_t lt]
      refine ⟨⟨⟨by omega, by omega, by omega⟩, by omega, by omega⟩, rfl, u, ⟨kgw.refl, kco_kfm w kk ((f.wide (B := fun x => x = 84 ∨ x = 82) (fun x e => Or.inl e)).trans (kfm_at.wide (fun x e => Or.inr e))) (fun x a b q => by omega)⟩, fr, fun j hj => ?_, fun i a b => ?_, ?_, fun _ i hi => ?_⟩
      · rw [f 82 (by omega), kup_j hj]
      · rw [f 85 (by omega), kup_x (by omega)]
      · rw [f 82 (by omega), kup_at]
      · show (if (84 : Int) = 84 ∧ 0 ≤ (i : Int) ∧ (i : Int) < 0 + done then kup σ 82 7 its 85 (0 + ((i : Int) - 0)) else _) = _
        rw [if_pos (by omega), kup_x (by omega), show (0 : Int) + ((i : Int) - 0) = i by omega]
        have := hdig i (by omega)
        rw [show done = n by omega] at this
        exact this
    refine S_X5_tryFlight (dr := 11) (by omega) (by omega) ⟨by omega, by omega, fun lt => ⟨by omega, by omega, fun _ => leaf (by omega), fun q => by omega⟩, fun le => ⟨rfl, u, ⟨kgw.refl, kk⟩, kfm.refl, fun _ _ => rfl, fun _ _ _ => rfl, ?_, ?_⟩⟩
    · rw [sFF_0, kif_f (by omega)]; exact hb7
    · rw [sFF_0, kif_f (by omega)]; exact hfl
  | succ m ih =>
    intro d done σ u its p b hm hd hu hk h82 hb7 hb hits hdig hfl
    obtain ⟨w, kk⟩ := hu
    obtain ⟨hkt, hf, h7⟩ := hk
    obtain ⟨g6, g9, g10, g11⟩ := h82
    have w1 := wf_h w
    have kt1 := hkt.1
    have kt2 := hkt.2
    have hC : isC 31 := hc
    generalize hQ : (fun (x : Int) (s : Kmem) => x = 0 ∧ ∃ u2, (kgw u2 u ∧ kco s 31 u2) ∧ kfm (fun x => flA x ∨ x = 82 ∨ x = 84 ∨ x = 85) s σ ∧ (∀ j, j ≠ 7 → s 82 j = σ 82 j) ∧ (∀ i : Int, 0 ≤ i → i < done → s 85 i = σ 85 i) ∧ s 82 7 = (sFF kite c r (m + 1) p u its b).1 ∧ (0 ≤ (sFF kite c r (m + 1) p u its b).1 → sDig (s 84) n (sFF kite c r (m + 1) p u its b).2)) = Q
    refine S_X5_tryFlight (dr := d - 1) (by omega) (by omega) ⟨by omega, by omega, fun lt => ⟨by omega, by omega, fun q => by omega, fun _ => ⟨fun _ => ⟨by omega, Run.mono (P_X0_cutSet hc ⟨w, kk⟩) (fun x s z => ?_)⟩, fun q => by omega⟩⟩, fun le => ?_⟩
    rotate_left
    · rw [← hQ]
      refine ⟨rfl, u, ⟨kgw.refl, kk⟩, kfm.refl, fun _ _ => rfl, fun _ _ _ => rfl, ?_, ?_⟩
      · rw [sFF_cut hits.1 (by omega)]; exact hb7
      · rw [sFF_cut hits.1 (by omega)]; exact hfl
    rw [z.1, z.2, g9]
    have kc := kk.2.2.1 kite kt1 kt2
    rw [kc.1.1, kc.1.2.1]
    have el : (31 : Int) + 6 + kite = 37 + kite := by omega
    let F : Int → Int × Int → Int × Int := fun d y => kif (sMay u kite d) (sFF kite c r m (p * 5 + d) (sPass (sWalk u kite d)) (its + kb (sOwn (sCuts (sWalk u kite d)) c r (u 7 % 12) = kite)) y) y
    have Fge : ∀ k : Nat, -1 ≤ (kfor F k b).1 ∧ ((kfor F k b).1 ≤ 10) := by
      intro k
      refine ⟨?_, ?_⟩
      · refine kfor_inv (P := fun _ (a : Int × Int) => -1 ≤ a.1) hb.1 k (fun i a hi h => ?_)
        show -1 ≤ (kif (sMay u kite i) _ a).1
        by_cases q : sMay u kite i
        · rw [kif_t q]; exact sFF_ge h
        · rw [kif_f q]; exact h
      · refine kfor_inv (P := fun _ (a : Int × Int) => a.1 ≤ 10) hb.2 k (fun i a hi h => ?_)
        show (kif (sMay u kite i) _ a).1 ≤ 10
        by_cases q : sMay u kite i
        · rw [kif_t q]
          unfold sFF
          refine kfor_inv (P := fun _ (a : Int × Int) => a.1 ≤ 10) h _ (fun i2 a hi h => ?_)
          have k01 := kb_01 (sOwn (sCuts (sWalk u kite i)) c r (u 7 % 12) = kite)
          have fr := sFly_r (kite := kite) (c := c) (r := r) m i2 (sPass (sWalk u kite i)) (its + kb (sOwn (sCuts (sWalk u kite i)) c r (u 7 % 12) = kite)) (by omega)
          unfold sUpd
          by_cases q2 : a.1 < sFly kite c r m i2 (sPass (sWalk u kite i)) (its + kb (sOwn (sCuts (sWalk u kite i)) c r (u 7 % 12) = kite))
          · rw [kif_t q2]; show sFly _ _ _ _ _ _ _ ≤ 10; omega
          · rw [kif_f q2]; exact h
        · rw [kif_f q]; exact h
    refine kloopP (E := fun k τ => E_X5_tryFlight_86 G d done its (31 + 6 + kite) (u (34 + 9 * kite)) (u (34 + 9 * kite + 1)) (kset (sCt u) (u 2).toNat : Int) k τ Q) (fun k τ => (∃ u1, kgw u1 u ∧ kco τ 31 u1) ∧ (kfm (fun x => flA x ∨ x = 82 ∨ x = 84 ∨ x = 85) τ σ ∧ (∀ j, j ≠ 7 → τ 82 j = σ 82 j) ∧ (∀ i : Int, 0 ≤ i → i < done → τ 85 i = σ 85 i)) ∧ τ 82 7 = (kfor F k b).1 ∧ (0 ≤ (kfor F k b).1 → sDig (τ 84) n (kfor F k b).2)) 5 (fun k τ hk5 hI jh => S_X5_tryFlight_86 (dr := d - 1) (by omega) (by omega) (kIsX_kite hc ⟨by omega, by omega⟩) ⟨by omega, fun q => ?_, fun q => ?_⟩) ⟨⟨u, kgw.refl, kk⟩, ⟨kfm.refl, fun _ _ => rfl, fun _ _ _ => rfl⟩, hb7, hfl⟩
    · obtain ⟨⟨u1, gu, ku1⟩, ⟨f1, f2, f3⟩, t7, t84⟩ := hI
      have ek : k = 5 := by omega
      subst ek
      rw [← hQ, sFF_s hb.1]
      exact ⟨rfl, u1, ⟨gu, ku1⟩, f1, f2, f3, t7, t84⟩
    · obtain ⟨⟨u1, gu, ku1⟩, ⟨f1, f2, f3⟩, t7, t84⟩ := hI
      have jh := jh (by omega)
      have k5 : (0 : Int) ≤ k ∧ (k : Int) < 5 := by omega
      have e9 : τ 82 9 = kite := by rw [f2 9 (by omega), g9]
      have wu1 := kgw_wf w gu
      have e2 : u1 2 = u 2 := kgw_hd gu 2 (by omega) (by omega)
      have may := kgw_may (s := k) gu hk0
      rw [e9]
      refine Run.mono (P_X0_mayStep hc ⟨wu1, ku1, ⟨kt1, by omega⟩, k5⟩) (fun x s z => ?_)
      rw [z.1, z.2]
      have Fs : kfor F (k + 1) b = kif (sMay u kite k) (sFF kite c r m (p * 5 + k) (sPass (sWalk u kite k)) (its + kb (sOwn (sCuts (sWalk u kite k)) c r (u 7 % 12) = kite)) (kfor F k b)) (kfor F k b) := rfl
      refine ⟨kb_r _, fun n0 => jh τ ?_, fun n1 => ?_⟩
      · rw [Fs, kif_f (fun y => kb_f n0 (may.2 y))]
        exact ⟨⟨u1, gu, ku1⟩, ⟨f1, f2, f3⟩, t7, t84⟩
      · have yes1 : sMay u1 kite k := kb_t n1
        have yes := may.1 yes1
        rw [kif_t yes] at Fs
        have wk := sWalk_ok w hkt yes
        have wk1 := sWalk_ok wu1 ⟨kt1, by omega⟩ yes1
        have kt' : kco (kup τ 85 done k) 31 u1 := kco_kfm wu1 ku1 kfm_at (fun x a b q => by omega)
        rw [show (kup τ 85 (done : Int) (k : Int)) 82 9 = kite by rw [kup_x (by omega)]; exact e9]
        refine ⟨by omega, Run.mono (P_X0_stepHand hc ⟨wu1, kt', ⟨kt1, by omega⟩, yes1, k5⟩) (fun x s1 z => ?_)⟩
        obtain ⟨-, fa, ka⟩ := z
        refine Run.mono (P_X0_loseCrossed hc ⟨wk1.1, ka⟩) (fun x s2 z => ?_)
        obtain ⟨-, fb, kb2, -, dd⟩ := z
        have h12 : ∀ j, s2 82 j = τ 82 j := fun j => by rw [fb 82 (by omega), fa 82 (by omega), kup_x (by omega)]
        have e82 : s2 82 9 = kite ∧ s2 82 10 = c ∧ s2 82 11 = r ∧ s2 82 6 = n := by
          refine ⟨?_, ?_, ?_, ?_⟩
          · rw [h12]; exact e9
          · rw [h12, f2 10 (by omega), g10]
          · rw [h12, f2 11 (by omega), g11]
          · rw [h12, f2 6 (by omega), g6]
        have cu := sCuts_ok wk.1
        have cu1 := sCuts_ok wk1.1
        have gw := kgw_walk (s := k) gu hk0
        have gc := kgw_cuts wk.1 gw
        have e7 : sWalk u kite k 7 = u 7 := wk.2.1 7 (by omega) (by omega)
        have e71 : sWalk u1 kite k 7 = u 7 := by rw [wk1.2.1 7 (by omega) (by omega), kgw_7 gu]
        have hd1 : ∀ j, 0 ≤ j → j < 34 → sCuts (sWalk u1 kite k) j = u j := fun j a b => by rw [cu1.2 j a b, wk1.2.1 j a b, kgw_hd gu j a b]
        have hf1 : sFld (sCuts (sWalk u1 kite k)) c r := by
          unfold sFld; rw [hd1 0 (by omega) (by omega), hd1 1 (by omega) (by omega)]; exact hf
        have own := (skD_own cu1.1 dd hf1).2
        rw [e71] at own
        rw [kgeo_own cu.1 (kgw_geo cu.1 gc) ⟨by omega, by omega⟩] at own
        have or := sOwn_r (v := sCuts (sWalk u kite k)) (c := c) (r := r) (h := u 7 % 12) cu.1
        have k01 := kb_01 (sOwn (sCuts (sWalk u kite k)) c r (u 7 % 12) = kite)
        have kh := kco_h kb2
        have e4 : s2 31 4 = u 7 := by rw [kh.2.1, hd1 7 (by omega) (by omega)]
        have kp : kco (kup s2 31 4 (s2 31 4 + 1)) 31 (sPass (sWalk u1 kite k)) := by
          have := kco_hour (x := s2 31 4 + 1) cu1.1 kb2
          rw [e4] at this ⊢
          have ep : sPass (sWalk u1 kite k) = ku (sCuts (sWalk u1 kite k)) 7 (u 7 + 1) := by unfold sPass; rw [e71]
          rw [ep]; exact this
        have wp := wf_pass wk.1 (by omega)
        have gp := kgw_pass wk.1 gw
        have wp1 := kgw_wf wp.1 gp
        have hp2 : ∀ j, 0 ≤ j → j < 34 → j ≠ 7 → sPass (sWalk u kite k) j = u j := fun j a b e => by rw [wp.2.1 j a b e, wk.2.1 j a b]
        have hp2' : ∀ j, 0 ≤ j → j < 34 → j ≠ 7 → sPass (sWalk u1 kite k) j = u j := fun j a b e => by rw [kgw_hd gp j a b, hp2 j a b e]
        have f85 : ∀ j, s2 85 j = ku (τ 85) done k j := fun j => by
          rw [fb 85 (by omega), fa 85 (by omega)]
          unfold kup ku
          by_cases e : j = done
          · rw [if_pos ⟨rfl, e⟩, if_pos e]
          · rw [if_neg (fun q => e q.2), if_neg e]
        have dig1 : sDig (τ 85) done p := sDig_c hdig (fun i a b => f3 i a b)
        have dig2 : sDig ((kup s2 31 4 (s2 31 4 + 1)) 85) (done + 1) (p * 5 + k) := by
          refine sDig_c (sDig_s dig1 k5) (fun i a b => ?_)
          rw [kup_x (by omega)]; exact f85 i
        have f84 : ∀ j, (kup s2 31 4 (s2 31 4 + 1)) 84 j = τ 84 j := fun j => by rw [kup_x (by omega), fb 84 (by omega), fa 84 (by omega), kup_x (by omega)]
        have Fg := Fge k
        -- the turn that follows
        have turn : ∀ (its' : Int), its' = its + kb (sOwn (sCuts (sWalk u kite k)) c r (u 7 % 12) = kite) →
            Run G WX M_X5_tryFlight (d - 1) 0 0 [vA G 82, vI ((done : Int) + 1), vI its'] (kup s2 31 4 (s2 31 4 + 1)) (fun r25 s26 => Run G WX M_X0_putCutSet 0 0 0 [vA G 31, vI (kset (sCt u) (u 2).toNat : Int)] (kup s26 31 4 (s26 31 4 - 1)) (fun r27 s28 => E_X5_tryFlight_86 G d done its (31 + 6 + kite) (u (34 + 9 * kite)) (u (34 + 9 * kite + 1)) (kset (sCt u) (u 2).toNat : Int) ((k : Int) + 1) (kup (kup s28 (31 + 6 + kite) 1 (u (34 + 9 * kite))) (31 + 6 + kite) 2 (u (34 + 9 * kite + 1))) Q)) := by
          intro its' hi'
          have hrun := ih (d - 1) (done + 1) (kup s2 31 4 (s2 31 4 + 1)) (sPass (sWalk u1 kite k)) its' (p * 5 + k) (kfor F k b) (by omega) (by omega) ⟨wp1, kp⟩ ⟨⟨kt1, by rw [hp2' 2 (by omega) (by omega) (by omega)]; exact kt2⟩, ?_, ?_⟩ ⟨?_, ?_, ?_, ?_⟩ ?_ Fg (by omega) dig2 (fun y => ?_)
          rotate_left
          · unfold sFld; rw [hp2' 0 (by omega) (by omega) (by omega), hp2' 1 (by omega) (by omega) (by omega)]; exact hf
          · rw [kgw_hd gp 7 (by omega) (by omega), wp.2.2, e7]; omega
          · rw [kup_x (by omega)]; exact e82.2.2.2
          · rw [kup_x (by omega)]; exact e82.1
          · rw [kup_x (by omega)]; exact e82.2.1
          · rw [kup_x (by omega)]; exact e82.2.2.1
          · rw [kup_x (by omega), h12]; exact t7
          · exact sDig_c (t84 y) (fun i _ _ => f84 i)
          refine Run.mono hrun (fun x s3 z => ?_)
          obtain ⟨-, u2, ⟨g2, k2⟩, fc, fj, fi, v7, v84⟩ := z
          have eFF : sFF kite c r m (p * 5 + k) (sPass (sWalk u1 kite k)) its' (kfor F k b) = kfor F (k + 1) b := by
            rw [Fs, ← hi']
            unfold sFF
            refine kfor_ext _ (fun i a hi => ?_)
            rw [kgw_fly m i (sPass (sWalk u1 kite k)) (sPass (sWalk u kite k)) its' gp wp.1 ⟨kt1, by rw [hp2 2 (by omega) (by omega) (by omega)]; exact kt2⟩ (by rw [wp.2.2, e7]; omega)]
          rw [eFF] at v7 v84
          have wu2 := kgw_wf wp1 g2
          have u27 : u2 7 = u 7 + 1 := by rw [kgw_7 g2, kgw_7 gp, wp.2.2, e7]
          have u22 : u2 2 = u 2 := by rw [kgw_hd g2 2 (by omega) (by omega), hp2' 2 (by omega) (by omega) (by omega)]
          have s34 : s3 31 4 = u 7 + 1 := by rw [(kco_h k2).2.1, u27]
          have k3 := kco_hour (x := s3 31 4 - 1) wu2 k2
          have w3 : wf (ku u2 7 (s3 31 4 - 1)) := wf_now wu2 (by omega)
          refine Run.mono (P_X0_putCutSet (p := sCt u) hc ⟨w3, k3, ?_⟩) (fun x s4 z => ?_)
          · rw [ku_ne (by omega), u22]
          obtain ⟨-, fd, k4⟩ := z
          have e42 : (ku u2 7 (s3 31 4 - 1)) 2 = u 2 := by rw [ku_ne (by omega), u22]
          rw [e42] at k4
          have okp := sPut_ok (p := sCt u) w3 (u 2).toNat (by rw [e42]; omega)
          have p2 : (sPut (ku u2 7 (s3 31 4 - 1)) (sCt u) (u 2).toNat) 2 = u 2 := by rw [okp.2 2 (by omega) (by omega), e42]
          have wkk := w.2.2.1 kite kt1 kt2
          have k5' := kco_col (k := kite) (x := u (34 + 9 * kite)) okp.1 k4 ⟨kt1, by rw [p2]; exact kt2⟩
          have w5 : wf (ku (sPut (ku u2 7 (s3 31 4 - 1)) (sCt u) (u 2).toNat) (34 + 9 * kite) (u (34 + 9 * kite))) := by
            refine wf_col okp.1 ⟨kt1, by rw [p2]; exact kt2⟩ ?_
            rw [okp.2 0 (by omega) (by omega), ku_ne (by omega), kgw_hd g2 0 (by omega) (by omega), hp2' 0 (by omega) (by omega) (by omega)]
            exact wkk.1
          have k6' := kco_row (k := kite) (x := u (34 + 9 * kite + 1)) w5 k5' ⟨kt1, by rw [ku_ne (by omega), p2]; exact kt2⟩
          refine jh _ ⟨⟨_, ?_, k6'⟩, ⟨?_, ?_, ?_⟩, ?_, ?_⟩
          · -- alike but in what was walked
            intro j a b' nw
            by_cases j1 : j = 34 + 9 * kite + 1
            · rw [j1, ku_eq]
            · rw [ku_ne j1]
              by_cases j0 : j = 34 + 9 * kite
              · rw [j0, ku_eq]
              · rw [ku_ne j0]
                by_cases jc : ∃ q : Nat, q < (u 2).toNat ∧ j = 34 + 9 * (q : Int) + 8
                · obtain ⟨q, hq, rfl⟩ := jc
                  rw [sPut_v _ hq]
                  have := (w.2.2.1 q (by omega) (by omega)).2.2.2.2.2.2.2
                  by_cases e : sCt u q
                  · rw [kb_1 e]; exact e.symm
                  · rw [kb_0 e]; rcases this with h | h
                    · exact h.symm
                    · exact absurd h e
                · rw [sPut_at _ (fun q hq e => jc ⟨q, hq, e⟩)]
                  by_cases j7 : j = 7
                  · rw [j7, ku_eq, s34]; omega
                  · rw [ku_ne j7, g2 j a b' nw, gp j a b' nw]
                    unfold sPass
                    rw [ku_ne j7, sCuts_at wk.1 (fun q q0 q1 e => jc ⟨q.toNat, by rw [wk.2.1 2 (by omega) (by omega)] at q1; omega, by omega⟩)]
                    unfold sWalk
                    rw [ku_ne (fun e => nw kite hk0.1 hk0.2 e), ku_ne j1, ku_ne j0]
          · refine (kfm_kup (Or.inl (Or.inl ⟨by omega, by omega⟩))).trans ((kfm_kup (Or.inl (Or.inl ⟨by omega, by omega⟩))).trans ((fd.wide (fun x e => Or.inl (Or.inl (by omega)))).trans ((kfm_kup (Or.inl (Or.inl ⟨by omega, by omega⟩))).trans (fc.trans ((kfm_kup (Or.inl (Or.inl ⟨by omega, by omega⟩))).trans ((fb.wide (fun x e => Or.inl (by omega))).trans ((fa.wide (fun x e => Or.inl (Or.inl (by omega)))).trans ((kfm_kup (Or.inr (Or.inr (Or.inr rfl)))).trans f1))))))))
          · intro j hj
            rw [kup_x (by omega), kup_x (by omega), fd 82 (by omega), kup_x (by omega), fj j hj, kup_x (by omega), h12, f2 j hj]
          · intro i a b'
            rw [kup_x (by omega), kup_x (by omega), fd 85 (by omega), kup_x (by omega), fi i a (by omega), kup_x (by omega), f85, ku_ne (by omega), f3 i a b']
          · rw [kup_x (by omega), kup_x (by omega), fd 82 (by omega), kup_x (by omega)]; exact v7
          · intro y
            refine sDig_c (v84 y) (fun i _ _ => ?_)
            rw [kup_x (by omega), kup_x (by omega), fd 84 (by omega), kup_x (by omega)]
        have eo : s2 63 (s2 82 11 * 9 + s2 82 10) = sOwn (sCuts (sWalk u kite k)) c r (u 7 % 12) := by rw [e82.2.1, e82.2.2.1]; exact own
        have c2 := (wf_h cu.1).2.1
        refine ⟨by rw [e82.2.1, e82.2.2.1]; omega, by rw [eo]; omega, by rw [e82.1]; omega, fun y => ?_, fun y => ?_⟩
        · rw [eo, e82.1] at y
          exact S_X5_tryFlight_168 (dr := d - 1) (by omega) (by omega) (kIsX_kite hc ⟨by omega, by omega⟩) ⟨by decide, fun _ => turn its (by rw [kb_0 y]; omega), fun h => absurd rfl h⟩
        · rw [eo, e82.1] at y
          exact S_X5_tryFlight_168 (dr := d - 1) (by omega) (by omega) (kIsX_kite hc ⟨by omega, by omega⟩) ⟨by decide, fun h => absurd h (by decide), fun _ => turn (its + 1) (by rw [kb_1 y])⟩
