theorem kif_same {α : Type} {P : Prop} {x : α} : kif P x x = x := by by_cases y : P; exact kif_t y; exact kif_f y
/-- cut are just those of p -/
noncomputable def sPut (v : Int → Int) (p : Int → Prop) (n : Nat) : Int → Int := kfor (fun k u => ku u (34 + 9 * k + 8) (kb (p k))) n v
theorem sPut_ok {v : Int → Int} {p : Int → Prop} (w : wf v) (n : Nat) (hn : (n : Int) ≤ v 2) : wf (sPut v p n) ∧ kfr (sPut v p n) v := by
  refine kfor_inv (P := fun _ u => wf u ∧ kfr u v) ⟨w, kfr.refl⟩ n (fun i a hi h => ?_)
  have e := h.2 2 (by omega) (by omega)
  exact ⟨wf_cut h.1 ⟨by omega, by omega⟩ (kb_01 _), (kfr_ku (by omega)).trans h.2⟩
theorem sPut_at {v : Int → Int} {p : Int → Prop} {j : Int} : ∀ n : Nat, (∀ k : Nat, k < n → j ≠ 34 + 9 * (k : Int) + 8) → sPut v p n j = v j
  | 0, _ => rfl
  | n + 1, h => by
    show ku (sPut v p n) (34 + 9 * (n : Int) + 8) (kb (p n)) j = v j
    rw [ku_ne (h n (by omega))]; exact sPut_at n (fun k hk => h k (by omega))
theorem sCuts_put {v : Int → Int} (w : wf v) : sPut v (fun k => v (34 + 9 * k + 8) = 1 ∨ sDoom v k) (v 2).toNat = sCuts v := by
  have w1 := wf_h w
  have q : ∀ n : Nat, n ≤ (v 2).toNat → sPut v (fun k => v (34 + 9 * k + 8) = 1 ∨ sDoom v k) n = kfor (fun k u => kif (sIn (sDooms v : Int) k) (ku u (34 + 9 * k + 8) 1) u) n v := by
    intro n
    induction n with
    | zero => intro _; rfl
    | succ n ih =>
      intro hn
      have ih := ih (by omega)
      show ku (sPut v _ n) (34 + 9 * (n : Int) + 8) (kb (v (34 + 9 * (n : Int) + 8) = 1 ∨ sDoom v n)) = kif (sIn (sDooms v : Int) n) (ku (kfor (fun k u => kif (sIn (sDooms v : Int) k) (ku u (34 + 9 * k + 8) 1) u) n v) (34 + 9 * (n : Int) + 8) 1) (kfor (fun k u => kif (sIn (sDooms v : Int) k) (ku u (34 + 9 * k + 8) 1) u) n v)
      rw [← ih]
      have e : sIn (sDooms v : Int) n ↔ sDoom v n := by
        rw [show sDooms v = kset (sDoom v) (v 2).toNat from rfl, sIn_kset]; exact ⟨fun z => z.2, fun z => ⟨by omega, z⟩⟩
      by_cases z : sDoom v n
      · rw [kif_t (e.2 z), kb_1 (Or.inr z)]
      · rw [kif_f (fun y => z (e.1 y))]
        have c := w.2.2.1 n (by omega) (by omega)
        have k1 : kb (v (34 + 9 * (n : Int) + 8) = 1 ∨ sDoom v n) = v (34 + 9 * (n : Int) + 8) := by
          by_cases y : v (34 + 9 * (n : Int) + 8) = 1
          · rw [kb_1 (Or.inl y), y]
          · rw [kb_0 (fun u => u.elim y z)]; omega
        rw [k1]
        funext j
        unfold ku
        by_cases y : j = 34 + 9 * (n : Int) + 8
        · rw [if_pos y, y, sPut_at n (fun k hk => by omega)]
        · rw [if_neg y]
  exact q _ (by omega)
theorem P_X0_putCutSet {G : Kg} {σ : Kmem} {c l1 : Int} {v : Int → Int} {p : Int → Prop} (hc : isC c) (h : wf v ∧ kco σ c v ∧ l1 = (kset p (v 2).toNat : Int)) : Run G WX M_X0_putCutSet 0 0 0 [vA G c, vI l1] σ (fun x s => x = 0 ∧ kfm (fun x => c + 6 ≤ x ∧ x < c + 12) s σ ∧ kco s c (sPut v p (v 2).toNat)) := by
  obtain ⟨w, kk, rfl⟩ := h
  have w1 := wf_h w
  have ls := kset_lt8 (p := p) (n := (v 2).toNat) (by omega)
  refine S_X0_putCutSet hc ?_
  refine kloopP (E := fun i τ => E_X0_putCutSet_2 G c (kset p (v 2).toNat : Int) i τ (fun x s => x = 0 ∧ kfm (fun x => c + 6 ≤ x ∧ x < c + 12) s σ ∧ kco s c (sPut v p (v 2).toNat))) (fun i τ => kfm (fun x => c + 6 ≤ x ∧ x < c + 12) τ σ ∧ kco τ c (sPut v p i)) (v 2).toNat (fun i τ hi hI ih => S_X0_putCutSet_2 hc ?_) ⟨kfm.refl, kk⟩
  obtain ⟨f, k2⟩ := hI
  have ok := sPut_ok (p := p) w i (by omega)
  have k1 := kco_h k2
  have e2 := ok.2 2 (by omega) (by omega)
  have nx : ∀ x : Int, i < (v 2).toNat → x = kb (p i) → E_X0_putCutSet_2 G c (kset p (v 2).toNat : Int) ((i : Int) + 1) (kup τ (c + 6 + i) 9 x) (fun x s => x = 0 ∧ kfm (fun x => c + 6 ≤ x ∧ x < c + 12) s σ ∧ kco s c (sPut v p (v 2).toNat)) := by
    intro x hi2 hx
    refine ih hi2 _ ⟨(kfm_kup ⟨by omega, by omega⟩).trans f, ?_⟩
    rw [hx]
    exact kco_cut ok.1 k2 ⟨by omega, by show (i : Int) < sPut v p i 2; rw [e2]; omega⟩
  refine ⟨by omega, by omega, fun z => ⟨rfl, f, by rw [show (v 2).toNat = i by omega]; exact k2⟩, fun z => ⟨by omega, ?_⟩⟩
  have e : kand (kshr (kset p (v 2).toNat : Int) i) 1 = kb (p i) := by
    rw [kin_bit (by omega) (by omega)]
    exact kb_iff (by rw [sIn_kset]; exact ⟨fun y => y.2, fun y => ⟨by omega, y⟩⟩)
  rw [e]
  refine ⟨kb_r _, fun y => nx 0 (by omega) ?_, fun y => nx 1 (by omega) y.symm⟩
  rcases kb_01 (p i) with u | u
  · exact u.symm
  · exact absurd u y
