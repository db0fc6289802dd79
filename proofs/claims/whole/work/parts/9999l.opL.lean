theorem O_suspects {G G' : Kg} {σ τ : Kmem} {l1 l2 : Int} (h : R σ τ) (r1 : rI l1) (r2 : rI l2) : Op G G' M_X11_suspects M_X12_suspects 5 6 [vA G 0, vI l1, vI l2] [vA G' 0, vI l1, vI l2] σ τ := by
  obtain ⟨w, k⟩ := R_w h
  have w1 := wf_h w
  have T := h.2.2.2.2.2.1
  by_cases c : (0 ≤ l1 ∧ l1 < τ 1 1) ∧ 0 ≤ l2 ∧ l2 < 4
  · obtain ⟨c2, c3⟩ := c
    have ar := adT_r c3
    obtain ⟨e0, e1⟩ := T.2 l2 c3.1 c3.2
    have ok := T.1.1 l2 c3.1 c3.2
    have ws : sWSt (τ 1) (τ 4) l1 l2 = if τ 4 l2 = -1 then 2 else if τ 4 l2 < τ 1 0 then 3 else 0 := by
      unfold sWSt
      rw [if_neg (fun n => by rcases n with n | n; exact n c2; exact n c3)]
    by_cases why : (if τ 4 l2 = -1 then (2 : Int) else if τ 4 l2 < τ 1 0 then 3 else 0) = 0
    · have m0 : τ 4 l2 ≠ -1 ∧ τ 1 0 ≤ τ 4 l2 := by
        split at why
        · omega
        split at why <;> omega
      obtain ⟨m1, m2⟩ := m0
      have st := fun k j => sStrip_r (v := τ 1) (k := k) (c := j) (r := l1)
      refine Op_pure (kset (fun k => ∀ c : Nat, c < (τ 1 0).toNat → τ 5 (60 * l2 + c) = sStrip (τ 1) k c l1) (τ 1 2).toNat : Int) 0 h (by decide) (S_X11_suspects (v := τ 1) ⟨⟨w, k, r1⟩, fun n => absurd c2 n, fun _ => ⟨r2, fun _ => ?_, fun n => absurd c3 n⟩⟩) (S_X12_suspects ⟨⟨w, T.1.1, r1, r2⟩, by rw [ws, why]; decide, fun _ => ?_, fun q => by rw [ws, why] at q; omega⟩)
      · refine Run.mono (P_X11_stripTrayStatus h c3) (fun r s e => ?_)
        rw [e.1, e.2, why]
        refine ⟨by decide, fun _ => ?_, fun n => absurd rfl n⟩
        refine Run.mono (P_X0_copy (v := τ 1) isC_31 isC_5 ⟨by decide, w, k⟩) (fun r s e => ?_)
        obtain ⟨-, f1, f2, -⟩ := e
        refine Run.mono (P_X5_countStrips (v := τ 1) ⟨⟨w, f2⟩, c2⟩) (fun r2 s2 g => ?_)
        obtain ⟨-, g1, g2⟩ := g
        have fr : fX s2 σ := (fX_of g1 (fun x q => by unfold scX; omega)).trans (fX_c31 f1)
        have kk : kco s2 31 (τ 1) := kco_kfm w f2 g1 (fun x a b q => by omega)
        have u5 : s2 5 5 = τ 1 2 := (kco_h (fX_co fr w k)).2.2.1
        have un : ∀ j, 0 ≤ j → j < τ 1 0 → s2 (adT l2 + 1) j = τ 5 (60 * l2 + j) := fun j a b => by
          rw [fr.1 _ (by unfold scX; omega)]; exact (e1 m1).2 j a (by omega)
        generalize hQ : (fun (r : Int) (s : Kmem) => r = (kset (fun k => ∀ c : Nat, c < (τ 1 0).toNat → τ 5 (60 * l2 + c) = sStrip (τ 1) k c l1) (τ 1 2).toNat : Int) ∧ fX s (kup σ 0 0 0)) = Q
        refine kloopS (E := fun i a => E_X11_suspects_66 G l2 a i s2 Q) (p := fun k => ∀ c : Nat, c < (τ 1 0).toNat → τ 5 (60 * l2 + c) = sStrip (τ 1) k c l1) (N := (τ 1 2).toNat) (by omega) (fun i a hi ha he hp hn hn2 => S_X11_suspects_66 (l1 := 0) ⟨by omega, by rw [u5]; constructor <;> omega, fun q => ?_, fun q => ⟨c3, ?_⟩⟩)
        · rw [u5] at q
          rw [← hQ]; exact ⟨by rw [he (by omega)], fX_st fr⟩
        · rw [u5] at q
          refine Run.mono (P_X5_isStrip (W := τ 1 0) (kT_nums (σ := fun _ _ => 0) (adT_is c3)) ⟨(kco_h kk).1.1, by omega, by omega, fun j a b => ⟨?_, ?_⟩⟩) (fun r3 s3 f => ?_)
          · rw [g2 i j ⟨by omega, q⟩ a b]; have := st i j; constructor <;> omega
          · rw [un j a b]; exact T.1.2.2 _ (by omega) (by omega)
          · obtain ⟨f1, f2⟩ := f
            subst f2
            have ip : (∀ c : Nat, c < (τ 1 0).toNat → s3 (90 + (i : Int)) c = s3 (adT l2 + 1) c) ↔ ∀ c : Nat, c < (τ 1 0).toNat → τ 5 (60 * l2 + c) = sStrip (τ 1) i c l1 := by
              constructor
              · intro z c hc
                have := z c hc
                rw [g2 i c ⟨by omega, q⟩ (by omega) (by omega), un c (by omega) (by omega)] at this
                exact this.symm
              · intro z c hc
                rw [g2 i c ⟨by omega, q⟩ (by omega) (by omega), un c (by omega) (by omega)]
                exact (z c hc).symm
            refine ⟨by rw [f1]; exact kb_r _, fun z => hn2 (by omega) (fun y => kb_f (by rw [← f1]; exact z) (ip.2 y)), fun z => hp (by omega) (ip.1 (kb_t (by rw [← f1]; exact z)))⟩
      · generalize hQ : (fun (r : Int) (t : Kmem) => r = (kset (fun k => ∀ c : Nat, c < (τ 1 0).toNat → τ 5 (60 * l2 + c) = sStrip (τ 1) k c l1) (τ 1 2).toNat : Int) ∧ fM t (kup τ 0 2 0)) = Q
        refine kloopS (E := fun i a => E_X12_suspects_23 G' l1 l2 a i τ Q) (p := fun k => ∀ c : Nat, c < (τ 1 0).toNat → τ 5 (60 * l2 + c) = sStrip (τ 1) k c l1) (N := (τ 1 2).toNat) (by omega) (fun i a hi ha he hp hn hn2 => S_X12_suspects_23 ⟨by omega, by omega, fun q => ?_, fun q => ?_⟩)
        · rw [← hQ]; exact ⟨by rw [he (by omega)], fM.refl⟩
        · refine kloopP (E := fun j (z : Int) => E_X12_suspects_40 G' l1 l2 a i z j τ Q) (fun j z => (z = 1 ∨ z = 0) ∧ (z = 1 ↔ ∀ c : Nat, c < j → τ 5 (60 * l2 + c) = sStrip (τ 1) i c l1)) (τ 1 0).toNat (fun j z hj hI jh => S_X12_suspects_40 ⟨by omega, by omega, fun q2 => ?_, fun q2 => ?_⟩) ⟨Or.inl rfl, fun _ c hc => by omega, fun _ => rfl⟩
          · obtain ⟨j1, j2⟩ := hI
            rw [show j = (τ 1 0).toNat by omega] at j2
            exact ⟨by rcases j1 with e | e <;> rw [e] <;> decide, fun z0 => hn (by omega) (fun y => by have := j2.2 y; omega), fun z1 => hp (by omega) (j2.1 (by omega))⟩
          · obtain ⟨j1, j2⟩ := hI
            have s1 := st i j
            have yr := T.1.2.2 (60 * l2 + j) (by omega) (by omega)
            refine ⟨by rcases j1 with e | e <;> rw [e] <;> decide, fun z0 => jh (by omega) 0 ⟨Or.inr rfl, fun n => by omega, fun y => ?_⟩, fun z1 => ⟨by omega, ⟨w, by omega, by omega, by omega, by omega⟩, by constructor <;> omega, yr, by constructor <;> omega, fun ne => jh (by omega) 0 ⟨Or.inr rfl, fun n => by omega, fun y => absurd (y j (by omega)) ne⟩, fun eq => jh (by omega) 1 ⟨Or.inl rfl, fun _ c hc => ?_, fun _ => rfl⟩⟩⟩
            · have := j2.2 (fun c hc => y c (by omega)); omega
            · by_cases e : c = j
              · subst e; exact eq
              · exact j2.1 (by omega) c (by omega)
    · have wr : 0 < (if τ 4 l2 = -1 then (2 : Int) else if τ 4 l2 < τ 1 0 then 3 else 0) ∧ (if τ 4 l2 = -1 then (2 : Int) else if τ 4 l2 < τ 1 0 then 3 else 0) ≤ 3 := by
        split at why
        · rw [if_pos (by assumption)]; omega
        · rw [if_neg (by assumption)]
          split at why
          · rw [if_pos (by assumption)]; omega
          · omega
      refine Op_pure (-1) (if τ 4 l2 = -1 then (2 : Int) else if τ 4 l2 < τ 1 0 then 3 else 0) h (by constructor <;> omega) (S_X11_suspects (v := τ 1) ⟨⟨w, k, r1⟩, fun n => absurd c2 n, fun _ => ⟨r2, fun _ => ?_, fun n => absurd c3 n⟩⟩) (S_X12_suspects ⟨⟨w, T.1.1, r1, r2⟩, by rw [ws]; constructor <;> omega, fun q => by rw [ws] at q; omega, fun _ => by rw [ws]; exact ⟨rfl, fM.refl⟩⟩)
      refine Run.mono (P_X11_stripTrayStatus h c3) (fun r s e => ?_)
      rw [e.1, e.2]
      exact ⟨by constructor <;> omega, fun z => absurd z why, fun _ => ⟨rfl, fX.refl⟩⟩
  · refine Op_pure (-1) 1 h (by decide) (S_X11_suspects (v := τ 1) ?_) (S_X12_suspects ?_)
    · all_goals (repeat' (with_reducible first | assumption | intro _ | refine And.intro ?_ ?_))
      all_goals (first | omega | contradiction | rfl | exact fX.refl | exact fM.refl | exact kb_0 (by decide) | exact kb_1 rfl | trivial | skip)
    · have ws : sWSt (τ 1) (τ 4) l1 l2 = 1 := by
        unfold sWSt
        rw [if_pos]
        by_cases z : 0 ≤ l1 ∧ l1 < τ 1 1
        · exact Or.inr (fun y => c ⟨z, y⟩)
        · exact Or.inl z
      rw [ws]
      exact ⟨⟨w, T.1.1, r1, r2⟩, by decide, fun y => by omega, fun _ => ⟨rfl, fM.refl⟩⟩
/-! covers -/
theorem P_X11_coverStatus {G : Kg} {σ τ : Kmem} {l1 l2 l3 : Int} (h : R σ τ) (r1 : rI l1) (r2 : rI l2) (r3 : rI l3) : Run G WX M_X11_coverStatus 4 0 0 [vA G 0, vI l1, vI l2, vI l3] σ (fun r s => fX s σ ∧ (sWCo (τ 1) (τ 4) (τ 5) l1 l2 l3 ≠ 0 → r = sWCo (τ 1) (τ 4) (τ 5) l1 l2 l3) ∧ (sWCo (τ 1) (τ 4) (τ 5) l1 l2 l3 = 0 → r = kif (sCov (τ 1) (τ 5) l1 l2 l3 (2 ^ (τ 1 2).toNat) = -1) 6 0 ∧ s 82 14 = sCov (τ 1) (τ 5) l1 l2 l3 (2 ^ (τ 1 2).toNat))) := by
  obtain ⟨w, k⟩ := R_w h
  have w1 := wf_h w
  have T := h.2.2.2.2.2.1
  by_cases c : sTr l1 ∧ (1 ≤ l2 ∧ l2 ≤ 20) ∧ sHr l3
  · obtain ⟨c1, c2, c3⟩ := c
    have ar := adT_r c1
    obtain ⟨e0, e1⟩ := T.2 l1 c1.1 c1.2
    have ok := T.1.1 l1 c1.1 c1.2
    have wc : sWCo (τ 1) (τ 4) (τ 5) l1 l2 l3 = kif (τ 4 l1 = -1) 2 (kif (τ 4 l1 < l2) 3 (kif (sPl (τ 1) (τ 5) l1 l2.toNat) 0 5)) := kif_t ⟨c1, c2, c3⟩
    by_cases m1 : τ 4 l1 = -1
    · rw [kif_t m1] at wc
      rw [kb_0 (fun n => n m1)] at e0
      rw [wc]
      refine S_X11_coverStatus ?_
      rw [e0]
      refine ⟨r1, fun n => absurd c1 n, fun _ => ⟨r2, fun q => by omega, fun _ => ⟨fun q => by omega, fun _ => ⟨r3, fun _ => ⟨c1, by decide, fun n => absurd rfl n, fun _ => ⟨fX.refl, fun _ => rfl, fun n => by omega⟩⟩, fun n => absurd c3 n⟩⟩⟩⟩
    obtain ⟨⟨e2, e3⟩, e4⟩ := e1 m1
    rw [kb_1 m1] at e0
    rw [kif_f m1] at wc
    by_cases m2 : τ 4 l1 < l2
    · rw [kif_t m2] at wc
      rw [wc]
      refine S_X11_coverStatus ?_
      rw [e0, e3]
      refine ⟨r1, fun n => absurd c1 n, fun _ => ⟨r2, fun q => by omega, fun _ => ⟨fun q => by omega, fun _ => ⟨r3, fun _ => ⟨c1, by decide, fun _ => ⟨c1, by constructor <;> omega, fun q => by omega, fun _ => ⟨fX.refl, fun _ => rfl, fun n => by omega⟩⟩, fun n => by omega⟩, fun n => absurd c3 n⟩⟩⟩⟩
    rw [kif_f m2] at wc
    generalize hQ : (fun (r : Int) (s : Kmem) => fX s σ ∧ (sWCo (τ 1) (τ 4) (τ 5) l1 l2 l3 ≠ 0 → r = sWCo (τ 1) (τ 4) (τ 5) l1 l2 l3) ∧ (sWCo (τ 1) (τ 4) (τ 5) l1 l2 l3 = 0 → r = kif (sCov (τ 1) (τ 5) l1 l2 l3 (2 ^ (τ 1 2).toNat) = -1) 6 0 ∧ s 82 14 = sCov (τ 1) (τ 5) l1 l2 l3 (2 ^ (τ 1 2).toNat))) = Q
    have main : E_X11_coverStatus_61 G l1 l2 l3 0 σ Q := by
      refine kloopP (E := fun i (u : Kmem) => E_X11_coverStatus_61 G l1 l2 l3 i u Q) (fun i u => u = σ ∧ ∀ j : Nat, j < i → (0 ≤ τ 5 (60 * l1 + j) ∧ τ 5 (60 * l1 + j) ≤ 69) ∧ sFld (τ 1) (τ 5 (60 * l1 + j) % 10) (τ 5 (60 * l1 + j) / 10)) l2.toNat (fun i u hi hI ih => S_X11_coverStatus_61 ⟨by omega, r2, fun q => ?_, fun q => ⟨c1, by omega, ?_⟩⟩) (τ := σ) ⟨rfl, fun j hj => by omega⟩
      · obtain ⟨i1, i2⟩ := hI
        subst i1
        have pl : sPl (τ 1) (τ 5) l1 l2.toNat := fun j hj => i2 j (by omega)
        rw [kif_t pl] at wc
        refine Run.mono (P_X8_look (v := τ 1) isC_5 ⟨w, k, c3⟩) (fun r s e => ⟨c1, ?_⟩)
        obtain ⟨-, f1, f2, f3, f4⟩ := e
        have fr := fX_sky f1
        refine Run.mono (P_X5_seekCover (v := τ 1) (y := τ 5) (h := l3) (t := l1) (kT_nums (σ := fun _ _ => 0) (adT_is c1)) ⟨⟨w, f4⟩, ⟨c3, by omega⟩, c2, fun j a b => ?_, pl⟩) (fun r2 s2 g => ?_)
        · rw [fr.1 _ (by unfold scX; omega)]; exact e4 j a (by omega)
        · obtain ⟨g1, g2, g3, g4⟩ := g
          have fr2 : fX s2 s := ⟨fun x a => g2 x (fun q => a (by unfold scX; omega)), g3 6 (by decide)⟩
          rw [g1, ← hQ, wc]
          refine ⟨kb_r _, fun z => ⟨fr2.trans fr, fun n => absurd rfl n, fun _ => ⟨?_, g4⟩⟩, fun z => ⟨fr2.trans fr, fun n => absurd rfl n, fun _ => ⟨?_, g4⟩⟩⟩
          · rw [kif_t (Classical.byContradiction (kb_f z))]
          · rw [kif_f (kb_t z)]
      · obtain ⟨i1, i2⟩ := hI
        subst i1
        have yr := T.1.2.2 (60 * l1 + i) (by omega) (by omega)
        have yv := e4 i (by omega) (by omega)
        refine Run.mono (P_X0_hasFieldNumber (v := τ 1) isC_5 ⟨w, k, by rw [yv]; exact yr⟩) (fun r s e => ?_)
        obtain ⟨f1, f2⟩ := e
        rw [yv] at f1
        subst f2
        refine ⟨by rw [f1]; exact kb_r _, fun z => ih (by omega) s ⟨rfl, fun j hj => ?_⟩, fun z => ?_⟩
        · by_cases e : j = i
          · subst e; exact kb_t (by rw [← f1]; exact z)
          · exact i2 j (by omega)
        · have np : ¬ sPl (τ 1) (τ 5) l1 l2.toNat := fun y => kb_f (by rw [← f1]; exact z) (y i (by omega))
          rw [kif_f np] at wc
          rw [← hQ, wc]; exact ⟨fX.refl, fun _ => rfl, fun n => by omega⟩
    refine S_X11_coverStatus ?_
    rw [e0, e3]
    exact ⟨r1, fun n => absurd c1 n, fun _ => ⟨r2, fun q => by omega, fun _ => ⟨fun q => by omega, fun _ => ⟨r3, fun _ => ⟨c1, by decide, fun _ => ⟨c1, by constructor <;> omega, fun _ => main, fun q => by omega⟩, fun n => by omega⟩, fun n => absurd c3 n⟩⟩⟩⟩
  · have wc : sWCo (τ 1) (τ 4) (τ 5) l1 l2 l3 = 1 := kif_f c
    rw [wc]
    have fin : fX σ σ ∧ ((1 : Int) ≠ 0 → (1 : Int) = 1) ∧ ((1 : Int) = 0 → (1 : Int) = kif (sCov (τ 1) (τ 5) l1 l2 l3 (2 ^ (τ 1 2).toNat) = -1) 6 0 ∧ σ 82 14 = sCov (τ 1) (τ 5) l1 l2 l3 (2 ^ (τ 1 2).toNat)) := ⟨fX.refl, fun _ => rfl, fun n => by omega⟩
    refine S_X11_coverStatus ⟨r1, fun _ => fin, fun y => ⟨r2, fun _ => fin, fun q => ⟨fun _ => fin, fun q2 => ⟨r3, fun y3 => absurd ⟨y, ⟨q, q2⟩, y3⟩ c, fun _ => fin⟩⟩⟩⟩
theorem sWCo_r {v m y : Int → Int} {t n hr : Int} : 0 ≤ sWCo v m y t n hr ∧ sWCo v m y t n hr ≤ 5 := by
  unfold sWCo
  by_cases a : sTr t ∧ (1 ≤ n ∧ n ≤ 20) ∧ sHr hr
  · rw [kif_t a]
    by_cases b : m t = -1
    · rw [kif_t b]; omega
    · rw [kif_f b]
      by_cases d : m t < n
      · rw [kif_t d]; omega
      · rw [kif_f d]
        by_cases e : sPl v y t n.toNat
        · rw [kif_t e]; omega
        · rw [kif_f e]; omega
  · rw [kif_f a]; omega
theorem sWCo_0 {v m y : Int → Int} {t n hr : Int} (h : sWCo v m y t n hr = 0) : (sTr t ∧ (1 ≤ n ∧ n ≤ 20) ∧ sHr hr) ∧ sPl v y t n.toNat := by
  unfold sWCo at h
  by_cases a : sTr t ∧ (1 ≤ n ∧ n ≤ 20) ∧ sHr hr
  · refine ⟨a, ?_⟩
    rw [kif_t a] at h
    by_cases b : m t = -1
    · rw [kif_t b] at h; omega
    · rw [kif_f b] at h
      by_cases d : m t < n
      · rw [kif_t d] at h; omega
      · rw [kif_f d] at h
        by_cases e : sPl v y t n.toNat
        · exact e
        · rw [kif_f e] at h; omega
  · rw [kif_f a] at h; omega
theorem O_cover {G G' : Kg} {σ τ : Kmem} {l1 l2 l3 : Int} (h : R σ τ) (r1 : rI l1) (r2 : rI l2) (r3 : rI l3) : Op G G' M_X11_cover M_X12_cover 5 7 [vA G 0, vI l1, vI l2, vI l3] [vA G' 0, vI l1, vI l2, vI l3] σ τ := by
  obtain ⟨w, k⟩ := R_w h
  have w1 := wf_h w
  have T := h.2.2.2.2.2.1
  have wr := sWCo_r (v := τ 1) (m := τ 4) (y := τ 5) (t := l1) (n := l2) (hr := l3)
  have cr := sCov_r (v := τ 1) (y := τ 5) (t := l1) (n := l2) (h := l3) (2 ^ (τ 1 2).toNat)
  have p6 := Nat.pow_le_pow_right (n := 2) (by decide) (show (τ 1 2).toNat ≤ 6 by omega)
  by_cases z : sWCo (τ 1) (τ 4) (τ 5) l1 l2 l3 = 0
  · obtain ⟨z1, z2⟩ := sWCo_0 z
    generalize hC : sCov (τ 1) (τ 5) l1 l2 l3 (2 ^ (τ 1 2).toNat) = C at *
    have kr := kbits_r (a := C.toNat)
    by_cases n : C = -1
    · refine Op_pure (-1) 6 h (by decide) (S_X11_cover (Run.mono (P_X11_coverStatus h r1 r2 r3) (fun r s e => ?_))) (S_X12_cover ?_)
      · have := (e.2.2 z).1
        rw [hC, kif_t n] at this
        rw [this]
        exact ⟨by decide, fun _ => ⟨rfl, fX_st e.1⟩, fun q => by omega⟩
      · rw [z, hC]
        exact ⟨⟨w, T.1.1, T.1.2.2, r1, r2, r3⟩, by decide, fun _ => ⟨⟨w, z1.1, z1.2.1, z1.2.2, z2⟩, by constructor <;> omega, fun q => absurd n q, fun _ => ⟨rfl, fM.refl⟩⟩, fun q => by omega⟩
    · refine Op_pure (kbits C.toNat : Int) 0 h (by decide) (S_X11_cover (Run.mono (P_X11_coverStatus h r1 r2 r3) (fun r s e => ?_))) (S_X12_cover ?_)
      · have := (e.2.2 z)
        rw [hC, kif_f n] at this
        rw [this.1, this.2]
        refine ⟨by decide, fun q => absurd rfl q, fun _ => Run.mono (P_J6_bitCount_0f7a4 ⟨by omega, by omega⟩) (fun r2 s2 f => ?_)⟩
        rw [f.1, f.2]; exact ⟨rfl, fX_st e.1⟩
      · rw [z, hC]
        exact ⟨⟨w, T.1.1, T.1.2.2, r1, r2, r3⟩, by decide, fun _ => ⟨⟨w, z1.1, z1.2.1, z1.2.2, z2⟩, by constructor <;> omega, fun _ => ⟨⟨by omega, by omega⟩, rfl, fM.refl⟩, fun q => absurd q n⟩, fun q => by omega⟩
  · refine Op_pure (-1) (sWCo (τ 1) (τ 4) (τ 5) l1 l2 l3) h (by constructor <;> omega) (S_X11_cover (Run.mono (P_X11_coverStatus h r1 r2 r3) (fun r s e => ?_))) (S_X12_cover ⟨⟨w, T.1.1, T.1.2.2, r1, r2, r3⟩, by constructor <;> omega, fun q => by omega, fun _ => ⟨rfl, fM.refl⟩⟩)
    rw [e.2.1 z]
    exact ⟨by constructor <;> omega, fun _ => ⟨rfl, fX_st e.1⟩, fun q => absurd q z⟩
theorem O_coverSet {G G' : Kg} {σ τ : Kmem} {l1 l2 l3 : Int} (h : R σ τ) (r1 : rI l1) (r2 : rI l2) (r3 : rI l3) : Op G G' M_X11_coverSet M_X12_coverSet 5 7 [vA G 0, vI l1, vI l2, vI l3] [vA G' 0, vI l1, vI l2, vI l3] σ τ := by
  obtain ⟨w, k⟩ := R_w h
  have w1 := wf_h w
  have T := h.2.2.2.2.2.1
  have wr := sWCo_r (v := τ 1) (m := τ 4) (y := τ 5) (t := l1) (n := l2) (hr := l3)
  have cr := sCov_r (v := τ 1) (y := τ 5) (t := l1) (n := l2) (h := l3) (2 ^ (τ 1 2).toNat)
  have p6 := Nat.pow_le_pow_right (n := 2) (by decide) (show (τ 1 2).toNat ≤ 6 by omega)
  by_cases z : sWCo (τ 1) (τ 4) (τ 5) l1 l2 l3 = 0
  · obtain ⟨z1, z2⟩ := sWCo_0 z
    generalize hC : sCov (τ 1) (τ 5) l1 l2 l3 (2 ^ (τ 1 2).toNat) = C at *
    refine Op_pure C (kif (C = -1) 6 0) h st6_r (S_X11_coverSet (Run.mono (P_X11_coverStatus h r1 r2 r3) (fun r s e => ?_))) (S_X12_coverSet ?_)
    · have := (e.2.2 z)
      rw [hC] at this
      by_cases n : C = -1
      · rw [kif_t n] at this
        rw [this.1, kif_t n]
        exact ⟨by decide, fun _ => ⟨n.symm, fX_st e.1⟩, fun q => by omega⟩
      · rw [kif_f n] at this
        rw [this.1, kif_f n]
        exact ⟨by decide, fun q => absurd rfl q, fun _ => ⟨this.2, fX_st e.1⟩⟩
    · rw [z, hC]
      exact ⟨⟨w, T.1.1, T.1.2.2, r1, r2, r3⟩, by decide, fun _ => ⟨⟨w, z1.1, z1.2.1, z1.2.2, z2⟩, by constructor <;> omega, rfl, fM.refl⟩, fun q => by omega⟩
  · refine Op_pure (-1) (sWCo (τ 1) (τ 4) (τ 5) l1 l2 l3) h (by constructor <;> omega) (S_X11_coverSet (Run.mono (P_X11_coverStatus h r1 r2 r3) (fun r s e => ?_))) (S_X12_coverSet ⟨⟨w, T.1.1, T.1.2.2, r1, r2, r3⟩, by constructor <;> omega, fun q => by omega, fun _ => ⟨rfl, fM.refl⟩⟩)
    rw [e.2.1 z]
    exact ⟨by constructor <;> omega, fun _ => ⟨rfl, fX_st e.1⟩, fun q => absurd q z⟩
