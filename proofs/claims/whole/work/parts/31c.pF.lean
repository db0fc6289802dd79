/-- nothing but the county of the moment changes -/
def kfar (u v : Int → Int) : Prop := ∀ j, (j < 0 ∨ 150 ≤ j) → u j = v j
theorem kfar.trans {u v w : Int → Int} (h : kfar u v) (g : kfar v w) : kfar u w := fun j a => (h j a).trans (g j a)
theorem kfar.refl {u : Int → Int} : kfar u u := fun _ _ => rfl
theorem kfar_ku {v : Int → Int} {i x : Int} (h : 0 ≤ i ∧ i < 150) : kfar (ku v i x) v := fun j a => ku_ne (by omega)
theorem sCuts_far {v : Int → Int} (w : wf v) : kfar (sCuts v) v := by
  have w1 := wf_h w
  refine kfor_inv (P := fun _ u => kfar u v) kfar.refl _ (fun i a hi h => ?_)
  by_cases q : sIn (sDooms v : Int) i
  · rw [kif_t q]; exact (kfar_ku (by omega)).trans h
  · rw [kif_f q]; exact h
theorem sEarn_far {v : Int → Int} {k n : Int} (hk : 0 ≤ k ∧ k < 6) : kfar (sEarn v k n) v := kfar_ku (by omega)
theorem sCrop_far {u : Int → Int} {c : Int} (w : wf u) (hc : 0 ≤ c ∧ c < u 3) : kfar (sCrop u c) u := by
  have w1 := wf_h w
  have o := sOwn_r (v := u) (c := u (88 + 4 * c)) (r := u (88 + 4 * c + 1)) (h := u 7 % 12) w
  unfold sCrop
  by_cases q : sOwn u (u (88 + 4 * c)) (u (88 + 4 * c + 1)) (u 7 % 12) = -1
  · rw [kif_t q]; exact kfar.refl
  · rw [kif_f q]; exact (sEarn_far (by omega)).trans (kfar_ku (by omega))
theorem sGo_far {v : Int → Int} {t : Int} (w : wf v) (ht : 0 ≤ t ∧ t < v 4) : kfar (sGo v t) v := by
  have w1 := wf_h w
  have a := w.2.2.2.2 t ht.1 ht.2
  have ht1 := ht.1
  unfold sGo
  by_cases q : sOwn v (v (120 + 5 * t)) (v (120 + 5 * t + 1)) (v 7 % 12) = v (120 + 5 * t + 2)
  · rw [kif_t q]; exact (sEarn_far (by omega)).trans (kfar_ku (by omega))
  · rw [kif_f q]
    by_cases q2 : (sNext v t (v 1).toNat).1 = 1000000
    · rw [kif_t q2]; exact kfar_ku (by omega)
    · rw [kif_f q2]; unfold sNear; split <;> exact kfar_ku (by omega)
theorem sBy_far {v : Int → Int} (w : wf v) : kfar (sBy v) v := by
  have w1 := wf_h w
  have h1 : ∀ n : Nat, (n : Int) ≤ v 3 → kfar (sCrops v n) v := by
    intro n
    induction n with
    | zero => intro _; exact sCuts_far w
    | succ n ih =>
      intro hn
      have ok := sCrops_ok w n (by omega)
      exact (sCrop_far ok.1 ⟨by omega, by rw [ok.2 3 (by omega) (by omega)]; omega⟩).trans (ih (by omega))
  have h2 : ∀ n : Nat, (n : Int) ≤ v 4 → kfar (sTens v n) v := by
    intro n
    induction n with
    | zero => intro _; exact h1 _ (by omega)
    | succ n ih =>
      intro hn
      have ok := sTens_ok w n (by omega)
      exact (sGo_far ok.1 ⟨by omega, by rw [ok.2 4 (by omega) (by omega)]; omega⟩).trans (ih (by omega))
  exact (kfar_ku (by omega)).trans (h2 _ (by omega))
def sKeepN (v : Int → Int) (to n : Int) : Int → Int := fun j => if to ≤ j ∧ j < to + n then v (j - to) else v j
abbrev sKeep (v : Int → Int) (to : Int) : Int → Int := sKeepN v to 150
def sRestN (v : Int → Int) (fr n : Int) : Int → Int := fun j => if 0 ≤ j ∧ j < n then v (fr + j) else v j
abbrev sRest (v : Int → Int) (fr : Int) : Int → Int := sRestN v fr 150
theorem P_X12_keeps {G : Kg} {σ : Kmem} {to : Int} (p : 150 ≤ to ∧ to ≤ 3448) : Run G WM M_X12_keeps 0 0 0 [vA G 0, vI to] σ (fun x s => x = 0 ∧ s = kst σ 1 (sKeep (σ 1) to)) := by
  refine S_X12_keeps ?_
  have s0 : E_X12_keeps_2 G to 0 (kst σ 1 (sKeepN (σ 1) to (0 : Nat))) (fun x s => x = 0 ∧ s = kst σ 1 (sKeep (σ 1) to)) := by
    refine kloop (E := fun i u => E_X12_keeps_2 G to i (kst σ 1 u) (fun x s => x = 0 ∧ s = kst σ 1 (sKeep (σ 1) to))) (fun n => sKeepN (σ 1) to n) 150 (fun i hi ih => S_X12_keeps_2 ?_)
    rw [kst_eq, kup_st]
    refine ⟨by omega, fun q => ⟨rfl, ?_⟩, fun q => ⟨by omega, by omega, ?_⟩⟩
    · rw [show (i : Int) = 150 by omega]
    · have ih := ih (by omega)
      have e : ku (sKeepN (σ 1) to i) (to + i) (sKeepN (σ 1) to i i) = sKeepN (σ 1) to ((i + 1 : Nat) : Int) := by
        funext j
        unfold ku sKeepN
        by_cases h : j = to + i
        · rw [if_pos h, if_neg (by omega), if_pos (by omega)]; congr 1; omega
        · rw [if_neg h]
          by_cases h2 : to ≤ j ∧ j < to + (i : Int)
          · rw [if_pos h2, if_pos (by omega)]
          · rw [if_neg h2, if_neg (by omega)]
      rw [e]; exact ih
  have e : sKeepN (σ 1) to ((0 : Nat) : Int) = σ 1 := by funext j; unfold sKeepN; rw [if_neg (by omega)]
  rw [e, kst_id] at s0; exact s0
theorem P_X12_restores {G : Kg} {σ : Kmem} {fr : Int} (p : 150 ≤ fr ∧ fr ≤ 3448) : Run G WM M_X12_restores 0 0 0 [vA G 0, vI fr] σ (fun x s => x = 0 ∧ s = kst σ 1 (sRest (σ 1) fr)) := by
  refine S_X12_restores ?_
  have s0 : E_X12_restores_2 G fr 0 (kst σ 1 (sRestN (σ 1) fr (0 : Nat))) (fun x s => x = 0 ∧ s = kst σ 1 (sRest (σ 1) fr)) := by
    refine kloop (E := fun i u => E_X12_restores_2 G fr i (kst σ 1 u) (fun x s => x = 0 ∧ s = kst σ 1 (sRest (σ 1) fr))) (fun n => sRestN (σ 1) fr n) 150 (fun i hi ih => S_X12_restores_2 ?_)
    rw [kst_eq, kup_st]
    refine ⟨by omega, fun q => ⟨rfl, ?_⟩, fun q => ⟨by omega, by omega, ?_⟩⟩
    · rw [show (i : Int) = 150 by omega]
    · have ih := ih (by omega)
      have e : ku (sRestN (σ 1) fr i) i (sRestN (σ 1) fr i (fr + i)) = sRestN (σ 1) fr ((i + 1 : Nat) : Int) := by
        funext j
        unfold ku sRestN
        by_cases h : j = i
        · rw [if_pos h, if_neg (by omega), if_pos (by omega)]; congr 1; omega
        · rw [if_neg h]
          by_cases h2 : 0 ≤ j ∧ j < (i : Int)
          · rw [if_pos h2, if_pos (by omega)]
          · rw [if_neg h2, if_neg (by omega)]
      rw [e]; exact ih
  have e : sRestN (σ 1) fr ((0 : Nat) : Int) = σ 1 := by funext j; unfold sRestN; rw [if_neg (by omega)]
  rw [e, kst_id] at s0; exact s0
theorem wf_keep {v : Int → Int} {to : Int} (w : wf v) (h : 150 ≤ to) : wf (sKeep v to) := wf_ext (fun j a b => if_neg (by omega)) w
/-- what was kept comes back -/
theorem sRest_keep {u v : Int → Int} {to : Int} (h : kfar u (sKeep v to)) (ht : 150 ≤ to) : sRest u to = sKeep v to := by
  funext j
  unfold sRest sRestN
  by_cases q : 0 ≤ j ∧ j < 150
  · rw [if_pos q, h (to + j) (by omega)]
    unfold sKeep sKeepN
    rw [if_pos (by omega), if_neg (by omega)]; congr 1; omega
  · rw [if_neg q]; exact h j (by omega)
def sStepC (s : Int) : Int := if s = 2 then 1 else if s = 4 then -1 else 0
def sStepR (s : Int) : Int := if s = 3 then 1 else if s = 1 then -1 else 0
def sWalk (v : Int → Int) (k s : Int) : Int → Int := ku (ku (ku v (34 + 9 * k) (v (34 + 9 * k) + sStepC s)) (34 + 9 * k + 1) (v (34 + 9 * k + 1) + sStepR s)) (34 + 9 * k + 6) (v (34 + 9 * k + 6) + (if s = 0 then 0 else 1))
/-- the step stays in the land -/
abbrev sMay (v : Int → Int) (k s : Int) : Prop := sFld v (v (34 + 9 * k) + sStepC s) (v (34 + 9 * k + 1) + sStepR s)
theorem sWalk_ok {v : Int → Int} {k s : Int} (w : wf v) (hk : sKt v k) (h : sMay v k s) : wf (sWalk v k s) ∧ kfr (sWalk v k s) v ∧ kfar (sWalk v k s) v := by
  have w1 := wf_h w
  obtain ⟨hk1, hk2⟩ := hk
  obtain ⟨h1, h2⟩ := h
  have a := wf_col (x := v (34 + 9 * k) + sStepC s) w ⟨hk1, hk2⟩ h1
  have b := wf_row (k := k) (x := v (34 + 9 * k + 1) + sStepR s) a ⟨hk1, by rw [ku_ne (by omega)]; exact hk2⟩ (by rw [ku_ne (by omega)]; exact h2)
  refine ⟨wf_walked b ⟨hk1, by rw [ku_ne (by omega), ku_ne (by omega)]; exact hk2⟩, ?_, ?_⟩
  · exact (kfr_ku (by omega)).trans ((kfr_ku (by omega)).trans (kfr_ku (by omega)))
  · exact (kfar_ku (by omega)).trans ((kfar_ku (by omega)).trans (kfar_ku (by omega)))
theorem P_X12_walks {G : Kg} {σ : Kmem} {k s : Int} (p : wf (σ 1) ∧ sKt (σ 1) k ∧ rI s) : Run G WM M_X12_walks 2 0 0 [vA G 0, vI k, vI s] σ (fun x t => x = kb (sMay (σ 1) k s) ∧ t = kst σ 1 (kif (sMay (σ 1) k s) (sWalk (σ 1) k s) (σ 1))) := by
  obtain ⟨w, ⟨hk1, hk2⟩, hs⟩ := p
  have w1 := wf_h w
  have a := w.2.2.1 k hk1 hk2
  have j : ∀ c p0 : Int, c = σ 1 (34 + 9 * k + 0) + sStepC s → p0 = sStepR s → E_X12_walks_52 G k s c p0 (σ 1 (34 + 9 * k + 1)) σ (fun x t => x = kb (sMay (σ 1) k s) ∧ t = kst σ 1 (kif (sMay (σ 1) k s) (sWalk (σ 1) k s) (σ 1))) := by
    intro c p0 e1 e2
    rw [Int.add_zero] at e1
    have c1 : -1 ≤ sStepC s ∧ sStepC s ≤ 1 := by unfold sStepC; (repeat' split) <;> omega
    have c2 : -1 ≤ sStepR s ∧ sStepR s ≤ 1 := by unfold sStepR; (repeat' split) <;> omega
    subst e1 e2
    refine S_X12_walks_52 ⟨⟨⟨by omega, by omega⟩, w⟩, fun h => ⟨by omega, by omega, by omega, hs, fun h2 => ⟨by omega, (kb_1 h).symm, ?_⟩, fun h2 => ⟨by omega, (kb_1 h).symm, ?_⟩⟩, fun h => ⟨(kb_0 h).symm, ?_⟩⟩
    · rw [kif_t h]; simp only [kup_k (σ := σ), kup_st, kst_eq]; rw [ku_ne (by omega), ku_ne (by omega)]; unfold sWalk; rw [if_neg h2]
    · rw [kif_t h]; simp only [kup_k (σ := σ), kup_st, kst_eq]; rw [ku_ne (by omega), ku_ne (by omega)]; unfold sWalk; rw [if_pos h2]
    · rw [kif_f h, kst_id]
  have C : ∀ x, x = sStepC s → σ 1 (34 + 9 * k + 0) + x = σ 1 (34 + 9 * k + 0) + sStepC s := fun x h => by rw [h]
  refine S_X12_walks ?_
  refine ⟨by omega, hs, fun a1 => ⟨fun a2 => ⟨by omega, fun a3 => ⟨fun a4 => j _ _ (C _ ?_) ?_, fun a4 => j _ _ (C _ ?_) ?_⟩, fun a3 => j _ _ (C _ ?_) ?_⟩, fun a2 => ⟨by omega, fun a3 => ⟨fun a4 => j _ _ (C _ ?_) ?_, fun a4 => j _ _ (C _ ?_) ?_⟩, fun a3 => j _ _ (C _ ?_) ?_⟩⟩, fun a1 => ⟨by omega, fun a3 => ⟨fun a4 => j _ _ (C _ ?_) ?_, fun a4 => j _ _ (C _ ?_) ?_⟩, fun a3 => j _ _ (C _ ?_) ?_⟩⟩
    <;> first | (unfold sStepC; (repeat' split) <;> first | rfl | omega) | (unfold sStepR; (repeat' split) <;> first | rfl | omega)
theorem P_X12_turnsCut {G : Kg} {σ : Kmem} {k b : Int} (p : wf (σ 1) ∧ sKt (σ 1) k ∧ (b = 0 ∨ b = 1)) : Run G WM M_X12_turnsCut 3 0 0 [vA G 0, vI k, vI b] σ (fun x t => x = kb (σ 1 (34 + 9 * k + 8) ≠ b) ∧ t = kst σ 1 (ku (σ 1) (34 + 9 * k + 8) b)) := by
  obtain ⟨w, ⟨hk1, hk2⟩, hs⟩ := p
  have w1 := wf_h w
  have a := w.2.2.1 k hk1 hk2
  have e : kb (σ 1 (34 + 9 * k + 8) = 1) = σ 1 (34 + 9 * k + 8) := by
    by_cases q : σ 1 (34 + 9 * k + 8) = 1
    · rw [kb_1 q, q]
    · rw [kb_0 q]; omega
  refine S_X12_turnsCut ?_
  rw [e]
  refine ⟨⟨w, hk1, hk2⟩, by omega, fun h => ⟨fun h2 => ⟨by omega, (kb_1 h).symm, ?_⟩, fun h2 => ⟨by omega, (kb_1 h).symm, ?_⟩⟩, fun h => ⟨(kb_0 (fun q => q h)).symm, ?_⟩⟩
  · rw [kup_k, h2]
  · rw [kup_k, show b = 1 by omega]
  · rw [show ku (σ 1) (34 + 9 * k + 8) b = σ 1 by
      funext j; unfold ku; split
      · rename_i q; rw [q, h]
      · rfl]
    exact kst_id.symm
/-- how many hours till p holds, at most so many more -/
noncomputable def sTill (p : (Int → Int) → Prop) : Nat → Int → (Int → Int) → Int
  | 0, _, _ => -1
  | m + 1, n, u => kif (p u) n (sTill p m (n + 1) (sBy u))
theorem till_loop {G : Kg} {σ : Kmem} {v : Int → Int} {what which most : Int} (hw : 0 ≤ which ∧ which < 31) (hm : most ≤ 1000) (hq : 0 ≤ what ∧ what ≤ 1) : ∀ (m : Nat) (n : Int) (u : Int → Int) (K : Int), (m : Int) + n = most + 1 → 0 ≤ n → wf u → u 7 ≤ 20000 + n → kfar u (sKeep v 3084) → K = sTill (fun u => sIn (sSet u (if what = 0 then 2 else 1) : Int) which) m n u →
    E_X12_hoursTill_10 G what which most n (kst σ 1 u) (fun x s => x = K ∧ s = kst σ 1 (sKeep v 3084)) := by
  intro m
  induction m with
  | zero =>
    intro n u K h1 h2 w h7 hf hK
    refine S_X12_hoursTill_10 ⟨by omega, by omega, fun _ => Run.mono (P_X12_restores (by omega)) (fun r s z => ?_), fun q => by omega⟩
    obtain ⟨rfl, rfl⟩ := z
    rw [kst_eq, kst_kst, sRest_keep hf (by omega)]
    exact ⟨fun q => by omega, fun _ => ⟨hK.symm, rfl⟩⟩
  | succ m ih =>
    intro n u K h1 h2 w h7 hf hK
    have w1 := wf_h w
    have ok := sBy_ok w (by omega)
    have fin : (sIn (sSet u (if what = 0 then 2 else 1) : Int) which) → Run G WM M_X12_restores 0 0 0 [vA G 0, vI 3084] (kst σ 1 u) (fun r5 s6 => ((n ≤ most → n = K ∧ s6 = kst σ 1 (sKeep v 3084)) ∧ (most < n → -1 = K ∧ s6 = kst σ 1 (sKeep v 3084)))) := by
      intro h
      refine Run.mono (P_X12_restores (by omega)) (fun r s z => ?_)
      obtain ⟨rfl, rfl⟩ := z
      rw [kst_eq, kst_kst, sRest_keep hf (by omega)]
      refine ⟨fun q => ⟨?_, rfl⟩, fun q => by omega⟩
      rw [hK, sTill, kif_t h]
    have go : ¬ (sIn (sSet u (if what = 0 then 2 else 1) : Int) which) → Run G WM M_X12_goesBy 8 0 0 [vA G 0] (kst σ 1 u) (fun r16 s17 => E_X12_hoursTill_10 G what which most (n + 1) s17 (fun x s => x = K ∧ s = kst σ 1 (sKeep v 3084))) := by
      intro h
      refine Run.mono (P_X12_goesBy (by rw [kst_eq]; exact w)) (fun r s z => ?_)
      obtain ⟨rfl, rfl⟩ := z
      rw [kst_eq, kst_kst]
      refine ih (n + 1) (sBy u) K (by omega) (by omega) ok.1 (by omega) ((sBy_far w).trans hf) ?_
      rw [hK, sTill, kif_f h]
    have sr : ∀ x : Int, (sSet u x : Int) < 65536 := by
      intro x
      unfold sSet
      have a1 := kset_lt8 (p := fun k => sUp u k (u 7 % 12)) (n := (u 2).toNat) (by omega)
      have a2 := kset_lt8 (p := fun k => u (34 + 9 * k + 8) = 1) (n := (u 2).toNat) (by omega)
      have a3 := kset_lt8 (p := fun c => u (88 + 4 * c + 2) ≤ u (88 + 4 * c + 3)) (n := (u 3).toNat) (by omega)
      by_cases q : x = 0
      · rw [kif_t q]; omega
      · rw [kif_f q]
        by_cases q : x = 1
        · rw [kif_t q]; omega
        · rw [kif_f q]; omega
    have s1 := sr 1
    have s2 := sr 2
    refine S_X12_hoursTill_10 ?_
    rw [kst_eq]
    refine ⟨by omega, by omega, fun q => by omega, fun q => ⟨by omega, fun h => ⟨⟨w, by omega, by omega⟩, ⟨⟨by omega, by omega⟩, hw⟩, fun h2 => ?_, fun h2 => ?_⟩, fun h => ⟨⟨w, by omega, by omega⟩, ⟨⟨by omega, by omega⟩, hw⟩, fun h2 => ?_, fun h2 => ?_⟩⟩⟩
    · rw [if_neg h] at fin; exact fin h2
    · rw [if_neg h] at go; exact go h2
    · rw [if_pos h] at fin; exact fin h2
    · rw [if_pos h] at go; exact go h2
theorem P_X12_hoursTill {G : Kg} {σ : Kmem} {what which most : Int} (p : wf (σ 1) ∧ σ 1 7 ≤ 20000 ∧ (0 ≤ which ∧ which < 31) ∧ (0 ≤ most ∧ most ≤ 1000) ∧ 0 ≤ what ∧ what ≤ 1) : Run G WM M_X12_hoursTill 9 0 0 [vA G 0, vI what, vI which, vI most] σ (fun x s => x = sTill (fun u => sIn (sSet u (if what = 0 then 2 else 1) : Int) which) (most + 1).toNat 0 (sKeep (σ 1) 3084) ∧ s = kst σ 1 (sKeep (σ 1) 3084)) := by
  obtain ⟨w, h7, hw, hm, hq⟩ := p
  refine S_X12_hoursTill (Run.mono (P_X12_keeps (by omega)) (fun r s z => ?_))
  obtain ⟨rfl, rfl⟩ := z
  refine till_loop hw (by omega) hq (most + 1).toNat 0 (sKeep (σ 1) 3084) _ (by omega) (by omega) (wf_keep w (by omega)) ?_ kfar.refl rfl
  unfold sKeep sKeepN; rw [if_neg (by omega)]; omega
/-- n hours go by -/
noncomputable def sHours (v : Int → Int) (n : Nat) : Int → Int := kfor (fun _ u => sBy u) n v
theorem sHours_ok {v : Int → Int} (w : wf v) (n : Nat) (h7 : v 7 + n ≤ 100000) : wf (sHours v n) ∧ (∀ j, 0 ≤ j → j < 34 → j ≠ 7 → sHours v n j = v j) ∧ sHours v n 7 = v 7 + n ∧ kfar (sHours v n) v := by
  have : (n : Int) ≤ n → wf (sHours v n) ∧ (∀ j, 0 ≤ j → j < 34 → j ≠ 7 → sHours v n j = v j) ∧ sHours v n 7 = v 7 + n ∧ kfar (sHours v n) v := by
    refine kfor_inv (P := fun i u => (i : Int) ≤ n → wf u ∧ (∀ j, 0 ≤ j → j < 34 → j ≠ 7 → u j = v j) ∧ u 7 = v 7 + (i : Int) ∧ kfar u v) (fun _ => ⟨w, fun _ _ _ _ => rfl, by omega, kfar.refl⟩) n (fun i a hi h h2 => ?_)
    have h := h (by omega)
    have ok := sBy_ok h.1 (by omega)
    exact ⟨ok.1, fun j a b c => (ok.2.1 j a b c).trans (h.2.1 j a b c), by rw [ok.2.2]; omega, (sBy_far h.1).trans h.2.2.2⟩
  exact this (by omega)
theorem P_X12_goesOn {G : Kg} {σ : Kmem} {n : Int} (p : wf (σ 1) ∧ σ 1 7 ≤ 20000 ∧ (0 ≤ n ∧ n ≤ 1000)) : Run G WM M_X12_goesOn 9 0 0 [vA G 0, vI n] σ (fun x s => x = 0 ∧ s = kst σ 1 (sHours (σ 1) n.toNat)) := by
  obtain ⟨w, h7, hn⟩ := p
  refine S_X12_goesOn ?_
  have s0 : E_X12_goesOn_2 G n 0 (kst σ 1 (σ 1)) (fun x s => x = 0 ∧ s = kst σ 1 (sHours (σ 1) n.toNat)) := by
    refine kloop (E := fun i u => E_X12_goesOn_2 G n i (kst σ 1 u) (fun x s => x = 0 ∧ s = kst σ 1 (sHours (σ 1) n.toNat))) (sHours (σ 1)) n.toNat (fun i hi ih => S_X12_goesOn_2 ?_)
    have ok := sHours_ok w i (by omega)
    refine ⟨by omega, by omega, fun q => ⟨rfl, by rw [show i = n.toNat by omega]⟩, fun q => Run.mono (P_X12_goesBy (by rw [kst_eq]; exact ok.1)) (fun r s z => ?_)⟩
    obtain ⟨rfl, rfl⟩ := z
    rw [kst_eq, kst_kst]; exact ih (by omega)
  rw [kst_id] at s0; exact s0
