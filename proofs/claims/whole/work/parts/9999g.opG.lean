/-! hours that would be: the class lets only what counts go by -/
theorem sCuts_slot {v : Int → Int} {k : Int} (w : wf v) (hk : sKt v k) : sCuts v (34 + 9 * k + 8) = kb (v (34 + 9 * k + 8) = 1 ∨ sDoom v k) := by
  obtain ⟨n, rfl⟩ := Int.eq_ofNat_of_zero_le hk.1
  have := hk.2
  rw [← sCuts_put w]
  exact sPut_v (v := v) (p := fun k => v (34 + 9 * k + 8) = 1 ∨ sDoom v k) (k := n) (v 2).toNat (by omega)
theorem sDoom_in {v : Int → Int} {k : Int} (hk : sKt v k) : sIn (sDooms v : Int) k ↔ sDoom v k := by
  obtain ⟨n, rfl⟩ := Int.eq_ofNat_of_zero_le hk.1
  have := hk.2
  rw [show sDooms v = kset (sDoom v) (v 2).toNat from rfl, sIn_kset]
  exact ⟨fun z => z.2, fun z => ⟨by omega, z⟩⟩
theorem kgeo_cuts {u v : Int → Int} (wu : wf u) (wv : wf v) (g : kgeo u v) (h7 : u 7 = v 7) : kgeo (sCuts u) (sCuts v) := by
  have a2 := g.1 2 (by omega) (by omega) (by omega)
  have w1 := wf_h wv
  have eD := kgeo_dooms wv g h7
  have v2 : sCuts v 2 = v 2 := sCuts_at wv (fun k a b => by omega)
  refine ⟨fun j a b c => ?_, fun k a b => ⟨?_, fun j a1 a2' a3 a4 => ?_⟩⟩
  · rw [sCuts_at wu (fun k a b => by omega), sCuts_at wv (fun k a b => by omega)]; exact g.1 j a b c
  · rw [v2] at b
    rw [sCuts_at wu (fun k a b => by omega), sCuts_at wv (fun k a b => by omega)]; exact (g.2 k a b).1
  · rw [v2] at b
    by_cases e : j = 8
    · subst e
      rw [sCuts_slot wu ⟨a, by omega⟩, sCuts_slot wv ⟨a, b⟩, (g.2 k a b).2 8 a1 a2' a3 a4]
      refine kb_iff ?_
      rw [← sDoom_in ⟨a, by omega⟩, ← sDoom_in ⟨a, b⟩, eD]
    · rw [sCuts_at wu (fun k a b => by omega), sCuts_at wv (fun k a b => by omega)]; exact (g.2 k a b).2 j a1 a2' a3 a4
theorem kgeo_by {v : Int → Int} (w : wf v) : kgeo (sBy v) (sCuts v) := by
  have w1 := wf_h w
  exact kgeo_hour.trans (sTens_geo w _ (by omega))
/-- what the class has let go by, V, and what the reference has, u -/
def rHr (V u : Int → Int) : Prop := (wf V ∧ wf u) ∧ kgeo V u ∧ V 7 = u 7
theorem sBy_7 {v : Int → Int} : sBy v 7 = v 7 + 1 := ku_eq
theorem cutIn_loop {G : Kg} {σ : Kmem} {k : Nat} : ∀ (m : Nat) (n : Int) (V u : Int → Int) (s : Kmem), (m : Int) + n = 100 → 0 ≤ n → rHr V u → V 7 ≤ 20000 + n → (k : Int) < V 2 → kco s 31 V → fX s σ → E_X11_cutIn_30 G k n s (fun r t => r = sTill (fun u => sIn (sSet u 1 : Int) k) m n u ∧ fX t (kup σ 0 0 (kif (sTill (fun u => sIn (sSet u 1 : Int) k) m n u = -1) 6 0))) := by
  intro m
  induction m with
  | zero =>
    intro n V u s h0 hn hR h7 hk hs hf
    have e : sTill (fun u => sIn (sSet u 1 : Int) k) 0 n u = -1 := rfl
    rw [e, kif_t rfl]
    exact S_X11_cutIn_30 ⟨by omega, fun _ => ⟨rfl, fX_st hf⟩, fun q => by omega⟩
  | succ m ih =>
    intro n V u s h0 hn hR h7 hk hs hf
    obtain ⟨⟨wV, wu⟩, g, g7⟩ := hR
    have w1 := wf_h wV
    have a2 := g.1 2 (by omega) (by omega) (by omega)
    have K9 := (hs.2.2.1 k (by omega) hk).2.2.2.2
    have wk := wV.2.2.1 k (by omega) hk
    have e8 := (g.2 k (by omega) (by omega)).2 8 (by omega) (by omega) (by omega) (by omega)
    have sI : sIn (sSet u 1 : Int) k ↔ V (34 + 9 * k + 8) = 1 := by
      have e1 : sSet u 1 = kset (fun k => u (34 + 9 * k + 8) = 1) (u 2).toNat := by
        unfold sSet; rw [kif_f (by decide), kif_t rfl]
      rw [e1, sIn_kset, e8]
      exact ⟨fun z => z.2, fun z => ⟨by omega, z⟩⟩
    have eT : sTill (fun u => sIn (sSet u 1 : Int) k) (m + 1) n u = kif (sIn (sSet u 1 : Int) k) n (sTill (fun u => sIn (sSet u 1 : Int) k) m (n + 1) (sBy u)) := rfl
    refine S_X11_cutIn_30 ?_
    rw [K9]
    refine ⟨by omega, fun q => by omega, fun q => ⟨by omega, by omega, fun z => ?_, fun z => ?_⟩⟩
    · rw [eT, kif_f (fun y => by have := sI.1 y; omega)]
      refine Run.mono (P_X0_loseCrossed (v := V) isC_31 ⟨wV, hs⟩) (fun r s2 e => ?_)
      obtain ⟨-, f1, k1, -⟩ := e
      have okc := sCuts_ok wV
      have c7 : sCuts V 7 = V 7 := sCuts_at wV (fun k a b => by omega)
      have c2 : sCuts V 2 = V 2 := sCuts_at wV (fun k a b => by omega)
      have kk := kco_hour (x := V 7 + 1) okc.1 k1
      have hs4 : s2 31 4 = V 7 := by rw [(kco_h k1).2.1, c7]
      have okb := sBy_ok wu (by omega)
      rw [hs4]
      refine ih (n + 1) (ku (sCuts V) 7 (V 7 + 1)) (sBy u) _ (by omega) (by omega) ⟨⟨wf_now okc.1 (by omega), okb.1⟩, kgeo_hour.trans ((kgeo_cuts wV wu g g7).trans ?_), ?_⟩ (by rw [ku_eq]; omega) (by rw [ku_ne (by omega), c2]; exact hk) kk ?_
      · have gb := kgeo_by wu
        have b2 := gb.1 2 (by omega) (by omega) (by omega)
        exact ⟨fun j a b c => (gb.1 j a b c).symm, fun k a b => ⟨(gb.2 k a (by omega)).1.symm, fun j a1 a2 a3 a4 => ((gb.2 k a (by omega)).2 j a1 a2 a3 a4).symm⟩⟩
      · rw [ku_eq, sBy_7, g7]
      · exact (fX_of (A := fun x => 31 ≤ x ∧ x ≤ 63) (fun x q => by rw [kup_o (by omega), f1 x (by omega)]) (fun x q => by unfold scX; have := q.1; have := q.2; omega)).trans hf
    · rw [eT, kif_t (sI.2 (by omega)), kif_f (by omega)]
      exact ⟨rfl, fX_st hf⟩
theorem till_r {p : (Int → Int) → Prop} : ∀ (m : Nat) (n : Int) (u : Int → Int), 0 ≤ n → -1 ≤ sTill p m n u ∧ sTill p m n u ≤ n + m
  | 0, n, u, h => by show -1 ≤ (-1 : Int) ∧ (-1 : Int) ≤ n + 0; omega
  | m + 1, n, u, h => by
    show -1 ≤ kif (p u) n (sTill p m (n + 1) (sBy u)) ∧ kif (p u) n (sTill p m (n + 1) (sBy u)) ≤ _
    have := till_r (p := p) m (n + 1) (sBy u) (by omega)
    by_cases q : p u
    · rw [kif_t q]; omega
    · rw [kif_f q]; omega
theorem O_cutIn {G G' : Kg} {σ τ : Kmem} {l1 : Int} (h : R σ τ) (r1 : rI l1) : Op G G' M_X11_cutIn M_X12_cutIn 4 10 [vA G 0, vI l1] [vA G' 0, vI l1] σ τ := by
  obtain ⟨w, k⟩ := R_w h
  have w1 := wf_h w
  have h7 := h.1.1.2.2
  by_cases c : sKt (τ 1) l1
  · obtain ⟨n, rfl⟩ := Int.eq_ofNat_of_zero_le c.1
    have tr := till_r (p := fun u => sIn (sSet u 1 : Int) n) 100 0 (sKeep (τ 1) 3084) (by omega)
    refine Op_pure (sTill (fun u => sIn (sSet u 1 : Int) n) 100 0 (sKeep (τ 1) 3084)) (kif (sTill (fun u => sIn (sSet u 1 : Int) n) 100 0 (sKeep (τ 1) 3084) = -1) 6 0) h st6_r (S_X11_cutIn (v := τ 1) ⟨⟨w, k, r1⟩, fun _ => ?_, fun n => absurd c n⟩) (S_X12_cutIn ⟨⟨r1, w⟩, fun n => absurd c n, fun _ => ⟨⟨w, by omega, by omega, by omega, by omega⟩, ?_, ?_⟩⟩)
    · refine Run.mono (P_X0_copy (v := τ 1) isC_31 isC_5 ⟨by decide, w, k⟩) (fun r s e => ?_)
      obtain ⟨-, e1, e2, -⟩ := e
      refine cutIn_loop 100 0 (τ 1) (sKeep (τ 1) 3084) s (by omega) (by omega) ⟨⟨w, wf_keep w (by omega)⟩, ⟨fun j a b c => (keep_0 (by omega)).symm, fun k a b => ?_⟩, (keep_0 (by omega)).symm⟩ (by omega) c.2 e2 (fX_c31 e1)
      rw [keep_0 (by omega)] at b
      exact ⟨(keep_0 (by omega)).symm, fun j _ _ _ _ => (keep_0 (by omega)).symm⟩
    · have e : ((99 : Int) + 1).toNat = 100 := rfl
      rw [e, if_neg (by decide)]
      constructor <;> omega
    · have e : ((99 : Int) + 1).toNat = 100 := rfl
      rw [e, if_neg (by decide)]
      exact ⟨rfl, fM_st (fM_keep (to := 3084) (by omega))⟩
  · refine Op_pure (-1) 1 h (by decide) (S_X11_cutIn (v := τ 1) ?_) (S_X12_cutIn ?_)
    all_goals (repeat' (with_reducible first | assumption | intro _ | refine And.intro ?_ ?_))
    all_goals (first | omega | contradiction | rfl | exact fX.refl | exact fM.refl | exact kb_0 (by decide) | exact kb_1 rfl | trivial | skip)
