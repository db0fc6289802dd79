theorem sPut_v {v : Int → Int} {p : Int → Prop} {k : Nat} : ∀ n : Nat, k < n → sPut v p n (34 + 9 * (k : Int) + 8) = kb (p k)
  | 0, h => absurd h (by omega)
  | n + 1, h => by
    show ku (sPut v p n) (34 + 9 * (n : Int) + 8) (kb (p n)) (34 + 9 * (k : Int) + 8) = _
    by_cases e : k = n
    · subst e; exact ku_eq
    · rw [ku_ne (by omega)]; exact sPut_v n (by omega)
abbrev sCt (u : Int → Int) (k : Int) : Prop := u (34 + 9 * k + 8) = 1
theorem skD_own {s : Kmem} {u : Int → Int} {h c r : Int} (w : wf u) (d : skD s u (sCt u) h) (hf : sFld u c r) : s 62 (r * 9 + c) = (sShs u c r h : Int) ∧ s 63 (r * 9 + c) = sOwn u c r h := by
  have w1 := wf_h w
  obtain ⟨⟨h1, h2⟩, h3, h4⟩ := hf
  have := d (r * 9 + c) (by omega) (by omega)
  have e1 : (r * 9 + c) % 9 = c := by omega
  have e2 : (r * 9 + c) / 9 = r := by omega
  have e : sSetI u (sCt u) h (r * 9 + c) (u 2).toNat = sShs u c r h := by
    unfold sSetI sShs
    refine kset_ext _ (fun k hk => ?_)
    unfold sOn sUS
    rw [e1, e2]
    exact ⟨fun z => z.2, fun z => ⟨⟨⟨h1, h2⟩, h3, h4⟩, z⟩⟩
  refine ⟨by rw [this.1, e], ?_⟩
  rw [this.2]
  unfold sOwI
  rw [e]
  unfold sOwnN sOwn sOwnBy
  rfl
theorem P_X0_loseCrossed {G : Kg} {σ : Kmem} {c : Int} {v : Int → Int} (hc : isC c) (p : wf v ∧ kco σ c v) : Run G WX M_X0_loseCrossed 3 0 0 [vA G c, vA G 58] σ (fun x s => x = (sDooms v : Int) ∧ kfm (fun x => (c + 6 ≤ x ∧ x < c + 12) ∨ (58 ≤ x ∧ x ≤ 63)) s σ ∧ kco s c (sCuts v) ∧ skR s c (sCuts v) (v 7 % 12) (sCt (sCuts v)) ∧ skD s (sCuts v) (sCt (sCuts v)) (v 7 % 12)) := by
  obtain ⟨w, kk⟩ := p
  have w1 := wf_h w
  have k1 := kco_h kk
  have cr := isC_r hc
  have hh : sHr (v 7 % 12) := ⟨by omega, by omega⟩
  refine S_X0_loseCrossed hc ⟨by omega, Run.mono (P_X0_cutSet hc ⟨w, kk⟩) (fun r s z => ?_)⟩
  rw [z.1, z.2]
  rw [k1.2.1]
  refine Run.mono (P_X8_raise (v := v) (q := sCt v) hc ⟨w, kk, hh, rfl⟩) (fun r s1 z => ?_)
  obtain ⟨-, f1, sk1⟩ := z
  have kk1 := kco_kfm w kk f1 (fun x a b u => by have := u.1; have := u.2; omega)
  refine Run.mono (P_X8_crossedSet hc ⟨⟨w, kk1, sk1⟩, hh⟩) (fun r s2 z => ?_)
  obtain ⟨rfl, rfl⟩ := z
  have eD : kset (sGat v (sCt v) (v 7 % 12) (v 2) 0) (v 2).toNat = sDooms v := kset_ext _ (fun k hk => gat_doom ⟨by omega, by omega⟩)
  rw [eD]
  refine Run.mono (P_X0_cutSet hc ⟨w, kk1⟩) (fun r s3 z => ?_)
  obtain ⟨rfl, rfl⟩ := z
  have eU : kor (kset (sCt v) (v 2).toNat : Int) (sDooms v : Int) = (kset (fun k => v (34 + 9 * k + 8) = 1 ∨ sDoom v k) (v 2).toNat : Int) := by
    have l1 := kset_lt8 (p := sCt v) (n := (v 2).toNat) (by omega)
    have l2 := kset_lt8 (p := sDoom v) (n := (v 2).toNat) (by omega)
    unfold sDooms
    rw [kor_nat (by omega) (by omega)]
    congr 1
    apply Nat.eq_of_testBit_eq
    intro x
    rw [Nat.testBit_or, Bool.eq_iff_iff, Bool.or_eq_true, kset_bit, kset_bit, kset_bit]
    constructor
    · rintro (⟨a, b⟩ | ⟨a, b⟩)
      · exact ⟨a, Or.inl b⟩
      · exact ⟨a, Or.inr b⟩
    · rintro ⟨a, b | b⟩
      · exact Or.inl ⟨a, b⟩
      · exact Or.inr ⟨a, b⟩
  refine Run.mono (P_X0_putCutSet (v := v) (p := fun k => v (34 + 9 * k + 8) = 1 ∨ sDoom v k) hc ⟨w, kk1, eU⟩) (fun r s4 z => ?_)
  obtain ⟨-, f4, kk4⟩ := z
  have av := fun (k : Nat) (hk : k < (v 2).toNat) => sPut_v (v := v) (p := fun k => v (34 + 9 * k + 8) = 1 ∨ sDoom v k) (v 2).toNat hk
  have an := fun (j : Int) (hj : ∀ k : Nat, k < (v 2).toNat → j ≠ 34 + 9 * (k : Int) + 8) => sPut_at (v := v) (p := fun k => v (34 + 9 * k + 8) = 1 ∨ sDoom v k) (v 2).toNat hj
  rw [sCuts_put w] at kk4 av an
  have ok := sCuts_ok w
  generalize hu : sCuts v = u at *
  have u2 : u 2 = v 2 := ok.2 2 (by omega) (by omega)
  have e58 : s4 58 = s3 58 := f4 58 (fun z => by have := z.1; have := z.2; omega)
  have fs : kfm (fun x => (c + 6 ≤ x ∧ x < c + 12) ∨ (58 ≤ x ∧ x ≤ 63)) (kup s4 58 1 (kand (s4 58 1) (kxor (sDooms v : Int) (-1)))) σ := by
    refine (kfm_kup (Or.inr ⟨by omega, by omega⟩)).trans ((f4.wide (fun x z => Or.inl z)).trans (f1.wide (fun x z => Or.inr ⟨z.1, by have := z.2; omega⟩)))
  have kk5 : kco (kup s4 58 1 (kand (s4 58 1) (kxor (sDooms v : Int) (-1)))) c u := kco_kfm ok.1 kk4 (kfm_kup (A := fun x => x = 58) rfl) (fun x a b z => by omega)
  have ent : ∀ (k : Int) (j : Int), 0 ≤ k → k < v 2 → 0 ≤ j → j < 8 → u (34 + 9 * k + j) = v (34 + 9 * k + j) := fun k j a b x y => an _ (fun m hm => by omega)
  have ent0 : ∀ (k : Int), 0 ≤ k → k < v 2 → u (34 + 9 * k) = v (34 + 9 * k) := fun k a b => an _ (fun m hm => by omega)
  have wi : ∀ j, 0 ≤ j → j < 34 → u j = v j := fun j a b => ok.2 j a b
  have bo : ∀ k, 0 ≤ k → k < v 2 → (sBorne u k (v 7 % 12) ↔ sBorne v k (v 7 % 12)) := fun k a b => by
    unfold sBorne; rw [ent k 4 a b (by omega) (by omega), wi _ (by omega) (by omega)]
  have fr : ∀ k, 0 ≤ k → k < v 2 → sFar u k (v 7 % 12) = sFar v k (v 7 % 12) := fun k a b => by
    unfold sFar; rw [ent k 3 a b (by omega) (by omega), wi _ (by omega) (by omega)]
  have tr : ∀ k, 0 ≤ k → k < v 2 → sTrn u k (v 7 % 12) = sTrn v k (v 7 % 12) := fun k a b => by
    unfold sTrn; rw [ent k 7 a b (by omega) (by omega), wi _ (by omega) (by omega)]
  have sk5 : skR (kup s4 58 1 (kand (s4 58 1) (kxor (sDooms v : Int) (-1)))) c u (v 7 % 12) (sCt u) := by
    obtain ⟨g0, g1, g2⟩ := sk1
    refine ⟨by rw [kup_j (by omega), e58]; exact g0, ?_, fun k a b => ?_⟩
    · rw [kup_at, e58, g1, u2]
      unfold sDooms
      rw [kand_diff (by omega)]
      congr 1
      refine kset_ext _ (fun k hk => ?_)
      rw [bo k (by omega) (by omega)]
      have := av k hk
      have ic : sCt u k ↔ (sCt v k ∨ sDoom v k) := by
        show u (34 + 9 * (k : Int) + 8) = 1 ↔ _
        rw [this]
        by_cases y : v (34 + 9 * (k : Int) + 8) = 1 ∨ sDoom v k
        · rw [kb_1 y]; exact ⟨fun _ => y, fun _ => rfl⟩
        · rw [kb_0 y]; exact ⟨fun z => by omega, fun z => absurd z y⟩
      rw [ic]
      constructor
      · rintro ⟨⟨z1, z2⟩, z3⟩; exact ⟨z1, fun z => z.elim z2 z3⟩
      · rintro ⟨z1, z2⟩; exact ⟨⟨z1, fun z => z2 (Or.inl z)⟩, fun z => z2 (Or.inr z)⟩
    · rw [u2] at b
      have := g2 k a b
      rw [kup_x (by omega), kup_x (by omega), kup_x (by omega), f4 59 (fun z => by have := z.1; have := z.2; omega), f4 60 (fun z => by have := z.1; have := z.2; omega), f4 61 (fun z => by have := z.1; have := z.2; omega), this.1, this.2.1, this.2.2]
      refine ⟨?_, ?_, ?_⟩
      · unfold sCol; rw [ent0 k a b, fr k a b, tr k a b]
      · unfold sRow; rw [ent k 1 a b (by omega) (by omega), fr k a b, tr k a b]
      · unfold sSz; rw [ent k 2 a b (by omega) (by omega), wi 5 (by omega) (by omega)]
  refine Run.mono (P_X8_castShade (v := u) (q := sCt u) (h := v 7 % 12) hc ⟨⟨ok.1, kk5, sk5⟩, hh⟩) (fun r s z => ?_)
  obtain ⟨-, f6, d6⟩ := z
  exact ⟨rfl, (f6.wide (fun x z => Or.inr ⟨by have := z.1; omega, by have := z.2; omega⟩)).trans fs, kco_kfm ok.1 kk5 f6 (fun x a b z => by have := z.1; have := z.2; omega), skR_kfm f6 sk5, d6⟩
