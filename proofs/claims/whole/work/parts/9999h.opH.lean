/-! how a crop grows in an hour -/
theorem sCrop_at {u : Int → Int} {c d j : Int} (w : wf u) (hc : 0 ≤ c) (hd : 0 ≤ d) (hj : 0 ≤ j ∧ j < 4) (ne : d ≠ c ∨ j ≠ 3) : sCrop u c (88 + 4 * d + j) = u (88 + 4 * d + j) := by
  have w1 := wf_h w
  have o := sOwn_r (v := u) (c := u (88 + 4 * c)) (r := u (88 + 4 * c + 1)) (h := u 7 % 12) w
  unfold sCrop
  by_cases q : sOwn u (u (88 + 4 * c)) (u (88 + 4 * c + 1)) (u 7 % 12) = -1
  · rw [kif_t q]
  · rw [kif_f q]
    unfold sEarn
    rw [ku_ne (by omega), ku_ne (by omega)]
theorem sCrop_3 {u : Int → Int} {c : Int} (w : wf u) (hc : 0 ≤ c) : sCrop u c (88 + 4 * c + 3) = kif (sOwn u (u (88 + 4 * c)) (u (88 + 4 * c + 1)) (u 7 % 12) = -1) (u (88 + 4 * c + 3)) (min 99 (u (88 + 4 * c + 3) + 1)) := by
  have w1 := wf_h w
  have o := sOwn_r (v := u) (c := u (88 + 4 * c)) (r := u (88 + 4 * c + 1)) (h := u 7 % 12) w
  unfold sCrop
  by_cases q : sOwn u (u (88 + 4 * c)) (u (88 + 4 * c + 1)) (u 7 % 12) = -1
  · rw [kif_t q, kif_t q]
  · rw [kif_f q, kif_f q]
    unfold sEarn
    rw [ku_ne (by omega), ku_eq]
theorem sCrops_at {v : Int → Int} {d j : Int} (w : wf v) (hd : 0 ≤ d) (hj : 0 ≤ j ∧ j < 4) : ∀ n : Nat, (n : Int) ≤ v 3 → ((n : Int) ≤ d ∨ j ≠ 3) → sCrops v n (88 + 4 * d + j) = v (88 + 4 * d + j)
  | 0, _, _ => by have w1 := wf_h w; exact sCuts_at w (fun k a b => by omega)
  | n + 1, hn, h => by
    have ok := sCrops_ok w n (by omega)
    show sCrop (sCrops v n) n (88 + 4 * d + j) = _
    rw [sCrop_at ok.1 (by omega) hd hj (by omega)]
    exact sCrops_at w hd hj n (by omega) (by omega)
theorem sCrops_3 {v : Int → Int} {d : Int} (w : wf v) (hd : 0 ≤ d) : ∀ n : Nat, (n : Int) ≤ v 3 → d < n → sCrops v n (88 + 4 * d + 3) = kif (sOwn (sCuts v) (v (88 + 4 * d)) (v (88 + 4 * d + 1)) (v 7 % 12) = -1) (v (88 + 4 * d + 3)) (min 99 (v (88 + 4 * d + 3) + 1))
  | 0, _, h => by omega
  | n + 1, hn, h => by
    have ok := sCrops_ok w n (by omega)
    show sCrop (sCrops v n) n (88 + 4 * d + 3) = _
    by_cases e : d = n
    · subst e
      have a0 := sCrops_at (d := n) (j := 0) w (by omega) (by omega) n (by omega) (Or.inl (Int.le_refl _))
      have a1 := sCrops_at (d := n) (j := 1) w (by omega) (by omega) n (by omega) (Or.inl (Int.le_refl _))
      have a3 := sCrops_at (d := n) (j := 3) w (by omega) (by omega) n (by omega) (Or.inl (Int.le_refl _))
      rw [Int.add_zero] at a0
      have e7 := ok.2 7 (by omega) (by omega)
      have w1 := wf_h w
      rw [sCrop_3 ok.1 (by omega), a0, a1, a3, e7, kgeo_own (sCuts_ok w).1 (sCrops_geo w n (by omega)) (by constructor <;> omega)]
    · rw [sCrop_at ok.1 (by omega) hd (by omega) (Or.inl e)]
      exact sCrops_3 w hd n (by omega) (by omega)
theorem sGo_at {v : Int → Int} {t j : Int} (w : wf v) (ht : 0 ≤ t ∧ t < v 4) (hj : 88 ≤ j ∧ j < 120) : sGo v t j = v j := by
  have w1 := wf_h w
  have a := w.2.2.2.2 t ht.1 ht.2
  have ht1 := ht.1
  unfold sGo
  by_cases q : sOwn v (v (120 + 5 * t)) (v (120 + 5 * t + 1)) (v 7 % 12) = v (120 + 5 * t + 2)
  · rw [kif_t q]; unfold sEarn; rw [ku_ne (by omega), ku_ne (by omega)]
  · rw [kif_f q]
    by_cases q2 : (sNext v t (v 1).toNat).1 = 1000000
    · rw [kif_t q2, ku_ne (by omega)]
    · rw [kif_f q2]; unfold sNear; split <;> rw [ku_ne (by omega)]
theorem sTens_at {v : Int → Int} {j : Int} (w : wf v) (hj : 88 ≤ j ∧ j < 120) : ∀ n : Nat, (n : Int) ≤ v 4 → sTens v n j = sCrops v (v 3).toNat j
  | 0, _ => rfl
  | n + 1, hn => by
    have ok := sTens_ok w n (by omega)
    have e4 := ok.2 4 (by omega) (by omega)
    show sGo (sTens v n) n j = _
    rw [sGo_at ok.1 ⟨by omega, by omega⟩ hj]
    exact sTens_at w hj n (by omega)
theorem sBy_crop {v : Int → Int} {d j : Int} (w : wf v) (hd : 0 ≤ d ∧ d < v 3) (hj : 0 ≤ j ∧ j < 3) : sBy v (88 + 4 * d + j) = v (88 + 4 * d + j) := by
  have w1 := wf_h w
  unfold sBy
  rw [ku_ne (by omega), sTens_at w (by omega) _ (by omega)]
  exact sCrops_at w hd.1 (by omega) _ (by omega) (Or.inr (by omega))
theorem sBy_grown {v : Int → Int} {d : Int} (w : wf v) (hd : 0 ≤ d ∧ d < v 3) : sBy v (88 + 4 * d + 3) = kif (sOwn (sCuts v) (v (88 + 4 * d)) (v (88 + 4 * d + 1)) (v 7 % 12) = -1) (v (88 + 4 * d + 3)) (min 99 (v (88 + 4 * d + 3) + 1)) := by
  have w1 := wf_h w
  unfold sBy
  rw [ku_ne (by omega), sTens_at w (by omega) _ (by omega)]
  exact sCrops_3 w hd.1 _ (by omega) (by omega)
theorem kgeo_back {u v : Int → Int} (g : kgeo u v) : kgeo v u := by
  have b2 := g.1 2 (by omega) (by omega) (by omega)
  exact ⟨fun j a b c => (g.1 j a b c).symm, fun k a b => ⟨(g.2 k a (by omega)).1.symm, fun j a1 a2 a3 a4 => ((g.2 k a (by omega)).2 j a1 a2 a3 a4).symm⟩⟩
theorem ripe_loop {G : Kg} {σ : Kmem} {d : Nat} : ∀ (m : Nat) (n : Int) (V u : Int → Int) (s : Kmem), (m : Int) + n = 1000 → 0 ≤ n → rHr V u → V 7 ≤ 20000 + n → (d : Int) < V 3 → (∀ j, 0 ≤ j → j < 4 → V (88 + 4 * d + j) = u (88 + 4 * d + j)) → kco s 31 V → fX s σ → E_X11_ripe_40 G (31 + 12 + (d : Int)) n s (fun r t => r = sTill (fun u => sIn (sSet u 2 : Int) d) m n u ∧ fX t (kup σ 0 0 (kif (sTill (fun u => sIn (sSet u 2 : Int) d) m n u = -1) 6 0))) := by
  intro m
  induction m with
  | zero =>
    intro n V u s h0 hn hR h7 hd hj hs hf
    have w1 := wf_h hR.1.1
    have e : sTill (fun u => sIn (sSet u 2 : Int) d) 0 n u = -1 := rfl
    rw [e, kif_t rfl]
    exact S_X11_ripe_40 (l1 := 0) (kIsX_crop isC_31 ⟨by omega, by omega⟩) ⟨by omega, fun _ => ⟨rfl, fX_st hf⟩, fun q => by omega⟩
  | succ m ih =>
    intro n V u s h0 hn hR h7 hd hj hs hf
    obtain ⟨⟨wV, wu⟩, g, g7⟩ := hR
    have w1 := wf_h wV
    have a3 := g.1 3 (by omega) (by omega) (by omega)
    have a0 := g.1 0 (by omega) (by omega) (by omega)
    have a1 := g.1 1 (by omega) (by omega) (by omega)
    have wc := wV.2.2.2.1 d (by omega) hd
    have j0 := hj 0 (by omega) (by omega)
    have j1 := hj 1 (by omega) (by omega)
    have j2 := hj 2 (by omega) (by omega)
    have j3 := hj 3 (by omega) (by omega)
    rw [Int.add_zero] at j0
    have kx : kIsX (31 + 12 + (d : Int)) 2 := kIsX_crop isC_31 ⟨by omega, by omega⟩
    have sI : sIn (sSet u 2 : Int) d ↔ V (88 + 4 * d + 2) ≤ V (88 + 4 * d + 3) := by
      have e1 : sSet u 2 = kset (fun c => u (88 + 4 * c + 2) ≤ u (88 + 4 * c + 3)) (u 3).toNat := by
        unfold sSet; rw [kif_f (by decide), kif_f (by decide)]
      rw [e1, sIn_kset, j2, j3]
      exact ⟨fun z => z.2, fun z => ⟨by omega, z⟩⟩
    have eT : sTill (fun u => sIn (sSet u 2 : Int) d) (m + 1) n u = kif (sIn (sSet u 2 : Int) d) n (sTill (fun u => sIn (sSet u 2 : Int) d) m (n + 1) (sBy u)) := rfl
    refine S_X11_ripe_40 (l1 := 0) kx ⟨by omega, fun q => by omega, fun q => Run.mono (P_X2_isRipe (v := V) kx ⟨wV, hs, by omega, hd⟩) (fun r12 s13 e => ?_)⟩
    obtain ⟨e1, e2⟩ := e
    subst e2
    rw [eT]
    refine ⟨by rw [e1]; exact kb_r _, fun z => ?_, fun z => ?_⟩
    · have nr := kb_f (by rw [← e1]; exact z)
      rw [kif_f (fun y => nr (sI.1 y))]
      refine Run.mono (P_X0_loseCrossed (v := V) isC_31 ⟨wV, hs⟩) (fun r s2 e => ?_)
      obtain ⟨-, f1, k1, sR, sD⟩ := e
      have okc := sCuts_ok wV
      have cv : ∀ j, (j < 34 ∨ 88 ≤ j) → sCuts V j = V j := fun j hj => sCuts_at wV (fun k a b => by omega)
      have kk := kco_hour (x := V 7 + 1) okc.1 k1
      have hs4 : s2 31 4 = V 7 := by rw [(kco_h k1).2.1, cv 7 (by omega)]
      have kc := k1.2.2.2.1 d (by omega) (by rw [cv 3 (by omega)]; exact hd)
      rw [cv _ (by omega), cv _ (by omega), cv _ (by omega), cv _ (by omega)] at kc
      have okb := sBy_ok wu (by omega)
      have bc := fun j a b => sBy_crop (v := u) (d := d) (j := j) wu ⟨by omega, by omega⟩ ⟨a, b⟩
      have bg := sBy_grown (v := u) (d := d) wu ⟨by omega, by omega⟩
      have gc := kgeo_cuts wV wu g g7
      have ow : sOwn (sCuts u) (u (88 + 4 * d)) (u (88 + 4 * d + 1)) (u 7 % 12) = sOwn (sCuts V) (V (88 + 4 * d)) (V (88 + 4 * d + 1)) (V 7 % 12) := by
        rw [← j0, ← j1, ← g7]
        exact (kgeo_own (sCuts_ok wu).1 gc (by constructor <;> omega)).symm
      rw [ow, ← j3] at bg
      have own := (skD_own (c := V (88 + 4 * d)) (r := V (88 + 4 * d + 1)) okc.1 sD ⟨⟨by omega, by rw [cv 0 (by omega)]; omega⟩, by omega, by rw [cv 1 (by omega)]; omega⟩).2
      have o := sOwn_r (v := sCuts V) (c := V (88 + 4 * d)) (r := V (88 + 4 * d + 1)) (h := V 7 % 12) okc.1
      rw [cv 2 (by omega)] at o
      have fr : ∀ s3 : Kmem, (∀ x, ¬ (31 ≤ x ∧ x ≤ 63) → s3 x = s2 x) → fX s3 σ := fun s3 q => (fX_of (A := fun x => 31 ≤ x ∧ x ≤ 63) (fun x y => by rw [q x y, f1 x (by omega)]) (fun x q => by unfold scX; have := q.1; have := q.2; omega)).trans hf
      have gg : kgeo (ku (sCuts V) 7 (V 7 + 1)) (sBy u) := kgeo_hour.trans (gc.trans (kgeo_back (kgeo_by wu)))
      rw [kc.1.1, kc.1.2, kc.2.2, own, hs4]
      refine ⟨by omega, by constructor <;> omega, fun n1 => ?_, fun n1 => ⟨⟨by decide, by constructor <;> omega⟩, ?_⟩⟩
      · rw [kif_t n1] at bg
        refine ih (n + 1) (ku (sCuts V) 7 (V 7 + 1)) (sBy u) _ (by omega) (by omega) ⟨⟨wf_now okc.1 (by omega), okb.1⟩, gg, ?_⟩ (by rw [ku_eq]; omega) (by rw [ku_ne (by omega), cv 3 (by omega)]; exact hd) (fun j a b => ?_) kk (fr _ (fun x q => kup_o (by omega)))
        · rw [ku_eq, sBy_7, g7]
        · rw [ku_ne (by omega), cv _ (by omega)]
          by_cases e : j = 3
          · subst e; rw [bg]
          · rw [bc j a (by omega)]; exact hj j a b
      · rw [kif_f n1] at bg
        have wg := wf_grown (k := d) (x := min 99 (V (88 + 4 * d + 3) + 1)) okc.1 ⟨by omega, by rw [cv 3 (by omega)]; exact hd⟩ (by omega)
        have kg := kco_grown (k := d) (x := min 99 (V (88 + 4 * d + 3) + 1)) okc.1 k1 ⟨by omega, by rw [cv 3 (by omega)]; exact hd⟩
        have kk2 := kco_hour (x := V 7 + 1) wg kg
        have hs5 : (kup s2 (31 + 12 + (d : Int)) 4 (min 99 (V (88 + 4 * d + 3) + 1))) 31 4 = V 7 := by rw [kup_x (by omega)]; exact hs4
        rw [hs5]
        refine ih (n + 1) (ku (ku (sCuts V) (88 + 4 * d + 3) (min 99 (V (88 + 4 * d + 3) + 1))) 7 (V 7 + 1)) (sBy u) _ (by omega) (by omega) ⟨⟨wf_now wg (by omega), okb.1⟩, ?_, ?_⟩ (by rw [ku_eq]; omega) (by rw [ku_ne (by omega), ku_ne (by omega), cv 3 (by omega)]; exact hd) (fun j a b => ?_) kk2 (fr _ (fun x q => by rw [kup_o (by omega), kup_o (by omega)]))
        · exact kgeo_hour.trans ((kgeo_far (by omega) (by rw [cv 2 (by omega)]; omega)).trans (gc.trans (kgeo_back (kgeo_by wu))))
        · rw [ku_eq, sBy_7, g7]
        · by_cases e : j = 3
          · subst e; rw [ku_ne (by omega), ku_eq, bg]
          · rw [ku_ne (by omega), ku_ne (by omega), cv _ (by omega), bc j a (by omega)]; exact hj j a b
    · rw [kif_t (sI.2 (kb_t (by rw [← e1]; exact z))), kif_f (by omega)]
      exact ⟨rfl, fX_st hf⟩
theorem O_ripe {G G' : Kg} {σ τ : Kmem} {l1 : Int} (h : R σ τ) (r1 : rI l1) : Op G G' M_X11_ripe M_X12_ripe 4 10 [vA G 0, vI l1] [vA G' 0, vI l1] σ τ := by
  obtain ⟨w, k⟩ := R_w h
  have w1 := wf_h w
  have h7 := h.1.1.2.2
  by_cases c : 0 ≤ l1 ∧ l1 < τ 1 3
  · obtain ⟨n, rfl⟩ := Int.eq_ofNat_of_zero_le c.1
    have tr := till_r (p := fun u => sIn (sSet u 2 : Int) n) 1000 0 (sKeep (τ 1) 3084) (by omega)
    refine Op_pure (sTill (fun u => sIn (sSet u 2 : Int) n) 1000 0 (sKeep (τ 1) 3084)) (kif (sTill (fun u => sIn (sSet u 2 : Int) n) 1000 0 (sKeep (τ 1) 3084) = -1) 6 0) h st6_r (S_X11_ripe (v := τ 1) ⟨⟨w, k, r1⟩, fun _ => ?_, fun n => absurd c n⟩) (S_X12_ripe ⟨⟨r1, w⟩, fun n => absurd c n, fun _ => ⟨⟨w, by omega, by omega, by omega, by omega⟩, ?_, ?_⟩⟩)
    · refine Run.mono (P_X0_copy (v := τ 1) isC_31 isC_5 ⟨by decide, w, k⟩) (fun r s e => ⟨by omega, ?_⟩)
      obtain ⟨-, e1, e2, -⟩ := e
      refine ripe_loop 1000 0 (τ 1) (sKeep (τ 1) 3084) s (by omega) (by omega) ⟨⟨w, wf_keep w (by omega)⟩, ⟨fun j a b c => (keep_0 (by omega)).symm, fun k a b => ?_⟩, (keep_0 (by omega)).symm⟩ (by omega) c.2 (fun j a b => (keep_0 (by omega)).symm) e2 (fX_c31 e1)
      rw [keep_0 (by omega)] at b
      exact ⟨(keep_0 (by omega)).symm, fun j _ _ _ _ => (keep_0 (by omega)).symm⟩
    · have e : ((999 : Int) + 1).toNat = 1000 := rfl
      rw [e, if_pos rfl]
      constructor <;> omega
    · have e : ((999 : Int) + 1).toNat = 1000 := rfl
      rw [e, if_pos rfl]
      exact ⟨rfl, fM_st (fM_keep (to := 3084) (by omega))⟩
  · refine Op_pure (-1) 1 h (by decide) (S_X11_ripe (v := τ 1) ?_) (S_X12_ripe ?_)
    all_goals (repeat' (with_reducible first | assumption | intro _ | refine And.intro ?_ ?_))
    all_goals (first | omega | contradiction | rfl | exact fX.refl | exact fM.refl | exact kb_0 (by decide) | exact kb_1 rfl | trivial | skip)
