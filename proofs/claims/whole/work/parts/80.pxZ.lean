/-! the set of all that were cut in some hours -/
theorem kor_kset {p q : Int → Prop} {N : Nat} (hN : N ≤ 12) : kor (kset p N : Int) (kset q N : Int) = (kset (fun k => p k ∨ q k) N : Int) := by
  have a := ksetW (p := p) hN
  have b := ksetW (p := q) hN
  rw [kor_nat (by omega) (by omega)]
  congr 1
  apply Nat.eq_of_testBit_eq
  intro i
  rw [Nat.testBit_or]
  by_cases h : i < N ∧ (p i ∨ q i)
  · rw [(kset_bit (p := fun k => p k ∨ q k) N i).2 h]
    rcases h.2 with z | z
    · rw [(kset_bit (p := p) N i).2 ⟨h.1, z⟩]; rfl
    · rw [(kset_bit (p := q) N i).2 ⟨h.1, z⟩]; simp
  · have n1 : (kset p N).testBit i = false := by
      cases e : (kset p N).testBit i
      · rfl
      · have := (kset_bit (p := p) N i).1 e; exact absurd ⟨this.1, Or.inl this.2⟩ h
    have n2 : (kset q N).testBit i = false := by
      cases e : (kset q N).testBit i
      · rfl
      · have := (kset_bit (p := q) N i).1 e; exact absurd ⟨this.1, Or.inr this.2⟩ h
    have n3 : (kset (fun k => p k ∨ q k) N).testBit i = false := by
      cases e : (kset (fun k => p k ∨ q k) N).testBit i
      · rfl
      · exact absurd ((kset_bit (p := fun k => p k ∨ q k) N i).1 e) h
    rw [n1, n2, n3]; rfl
theorem kcn_or {p q : Int → Prop} : ∀ n : Nat, (∀ k : Nat, k < n → ¬ (p k ∧ q k)) → kcn (fun k => p k ∨ q k) n = kcn p n + kcn q n
  | 0, _ => rfl
  | n + 1, h => by
    rw [kcn_s, kcn_s, kcn_s, kcn_or n (fun k hk => h k (by omega))]
    have hn := h n (by omega)
    by_cases a : p n
    · by_cases b : q n
      · exact absurd ⟨a, b⟩ hn
      · rw [kb_1 a, kb_0 b, kb_1 (P := p n ∨ q n) (Or.inl a)]; omega
    · by_cases b : q n
      · rw [kb_0 a, kb_1 b, kb_1 (P := p n ∨ q n) (Or.inr b)]; omega
      · rw [kb_0 a, kb_0 b, kb_0 (P := p n ∨ q n) (fun y => y.elim a b)]; omega
theorem sBy_cut {v : Int → Int} {k : Int} (w : wf v) (hk : sKt v k) : sBy v (34 + 9 * k + 8) = 1 ↔ v (34 + 9 * k + 8) = 1 ∨ sDoom v k := by
  have w1 := wf_h w
  have hk1 := hk.1
  have hk2 := hk.2
  have cu := sCuts_ok w
  have e2 : sCuts v 2 = v 2 := cu.2 2 (by omega) (by omega)
  have g := sTens_geo w (v 4).toNat (by omega)
  have e := (g.2 k hk1 (by rw [e2]; exact hk2)).2 8 (by omega) (by omega) (by omega) (by omega)
  unfold sBy
  rw [ku_ne (by omega), e, ← sCuts_put w]
  obtain ⟨n, rfl⟩ := Int.eq_ofNat_of_zero_le hk1
  rw [sPut_v _ (by omega : n < (v 2).toNat)]
  constructor
  · intro z; exact kb_t (by rw [z]; decide)
  · intro z; exact kb_1 z
theorem sHSet_u {v : Int → Int} (w : wf v) : ∀ n : Nat, v 7 + n ≤ 100000 → sHSet v n = (kset (fun k => sHours v n (34 + 9 * k + 8) = 1 ∧ v (34 + 9 * k + 8) ≠ 1) (v 2).toNat : Int) ∧ (kbits (sHSet v n).toNat : Int) = sBits v n ∧ ∀ k, sKt v k → v (34 + 9 * k + 8) = 1 → sHours v n (34 + 9 * k + 8) = 1
  | 0, _ => by
    have e0 : kset (fun k => sHours v 0 (34 + 9 * k + 8) = 1 ∧ v (34 + 9 * k + 8) ≠ 1) (v 2).toNat = 0 := kset_none (fun k hk z => z.2 z.1)
    refine ⟨by rw [e0]; rfl, by show ((kbits (0 : Int).toNat : Nat) : Int) = 0; decide, fun k _ h => h⟩
  | n + 1, h7 => by
    have w1 := wf_h w
    have ih := sHSet_u w n (by omega)
    have ok := sHours_ok w n (by omega)
    have e2 : sHours v n 2 = v 2 := ok.2.1 2 (by omega) (by omega) (by omega)
    have eT : sHSet v (n + 1) = kor (sHSet v n) (sDooms (sHours v n) : Int) := rfl
    have eB : sBits v (n + 1) = sBits v n + (kbits (sDooms (sHours v n)) : Int) := rfl
    have eH : sHours v (n + 1) = sBy (sHours v n) := rfl
    have dn : ∀ k, sKt v k → sDoom (sHours v n) k → sHours v n (34 + 9 * k + 8) ≠ 1 := fun k hk ⟨b, _, hd⟩ => hd.2.1.1.1.1
    have set : kor (sHSet v n) (sDooms (sHours v n) : Int) = (kset (fun k => (sHours v n (34 + 9 * k + 8) = 1 ∧ v (34 + 9 * k + 8) ≠ 1) ∨ sDoom (sHours v n) k) (v 2).toNat : Int) := by
      rw [ih.1]
      unfold sDooms
      rw [e2, kor_kset (by omega)]
    have eqv : ∀ k : Nat, k < (v 2).toNat → (((sHours v n (34 + 9 * (k : Int) + 8) = 1 ∧ v (34 + 9 * (k : Int) + 8) ≠ 1) ∨ sDoom (sHours v n) k) ↔ (sHours v (n + 1) (34 + 9 * (k : Int) + 8) = 1 ∧ v (34 + 9 * (k : Int) + 8) ≠ 1)) := by
      intro k hk
      have hkt : sKt v k := ⟨by omega, by omega⟩
      rw [eH, sBy_cut ok.1 ⟨by omega, by rw [e2]; omega⟩]
      constructor
      · rintro (z | z)
        · exact ⟨Or.inl z.1, z.2⟩
        · exact ⟨Or.inr z, fun y => dn k hkt z (ih.2.2 k hkt y)⟩
      · rintro ⟨z | z, y⟩
        · exact Or.inl ⟨z, y⟩
        · exact Or.inr z
    refine ⟨?_, ?_, fun k hk h => ?_⟩
    · rw [eT, set, kset_ext (q := fun k => sHours v (n + 1) (34 + 9 * k + 8) = 1 ∧ v (34 + 9 * k + 8) ≠ 1) _ eqv]
    · rw [eT, set, Int.toNat_natCast, kbits_kset _ (by omega), kcn_or]
      · rw [eB, ← ih.2.1, ih.1, Int.toNat_natCast, kbits_kset _ (by omega)]
        unfold sDooms
        rw [e2, kbits_kset _ (by omega)]
      · rintro k hk ⟨a, b⟩
        exact dn k ⟨by omega, by omega⟩ b a.1
    · rw [eH]
      exact (sBy_cut ok.1 ⟨hk.1, by rw [e2]; exact hk.2⟩).2 (Or.inl (ih.2.2 k hk h))
/-! the class's seasons at s are those of v -/
def kKd (o : Int) : Int := if o = 15 then 1 else if o = 16 then 2 else if o = 17 then 3 else if o = 18 then 4 else if o = 19 then 5 else if o = 21 then 7 else if o = 22 then 9 else if o = 23 then 8 else 6
def kTs (v : Int → Int) (k : Int) : Int := if (v (150 + 6 * k)) = 2025 then 4 else if (v (150 + 6 * k)) = 2026 then 5 else if v (150 + 6 * k + 5) = 60 then 1 else if v (150 + 6 * k + 5) = 62 then 2 else 3
def kprL (σ : Kmem) (s : Int) (v : Int → Int) (k : Int) : Prop := σ (s + 1) k = kKd ((v (150 + 6 * k))) ∧ (2024 ≤ (v (150 + 6 * k)) → σ (s + 2) k = kTs v k) ∧ ((16 ≤ (v (150 + 6 * k)) ∧ (v (150 + 6 * k)) ≤ 19) ∨ 2024 ≤ (v (150 + 6 * k)) → σ (s + 3) k = v (150 + 6 * k + 1)) ∧ ((v (150 + 6 * k)) = 15 ∨ (v (150 + 6 * k)) = 21 → σ (s + 4) k = v (150 + 6 * k + 1)) ∧ ((v (150 + 6 * k)) = 16 ∨ (v (150 + 6 * k)) = 2024 → σ (s + 4) k = v (150 + 6 * k + 2)) ∧ ((v (150 + 6 * k)) = 21 ∨ (v (150 + 6 * k)) = 22 ∨ 2024 ≤ (v (150 + 6 * k)) → σ (s + 5) k = (v (150 + 6 * k + 4)))
def kpr (σ : Kmem) (s : Int) (v : Int → Int) : Prop := ((σ s 0 = 0 ∨ σ s 0 = 1) ∧ (0 ≤ σ s 2 ∧ σ s 2 ≤ 60)) ∧ (σ s 0 = 0 ↔ v 8 = -1) ∧ (v 8 ≠ -1 → σ s 2 = v 8) ∧ ∀ k, 0 ≤ k → k < v 8 → kprL σ s v k
theorem kpr_kfm {A : Int → Prop} {t σ : Kmem} {s : Int} {v : Int → Int} (h : kpr σ s v) (f : kfm A t σ) (hA : ∀ x, s ≤ x → x < s + 6 → ¬ A x) : kpr t s v := by
  unfold kpr kprL at *
  rw [f s (hA s (by omega) (by omega)), f (s + 1) (hA _ (by omega) (by omega)), f (s + 2) (hA _ (by omega) (by omega)), f (s + 3) (hA _ (by omega) (by omega)), f (s + 4) (hA _ (by omega) (by omega)), f (s + 5) (hA _ (by omega) (by omega))]
  exact h
theorem kpr_eq {σ : Kmem} {s : Int} {u v : Int → Int} (h : kpr σ s v) (e : pEq u v) (hL : v 8 ≤ 60) : kpr σ s u := by
  obtain ⟨h1, h2, h3, h4⟩ := h
  obtain ⟨⟨e8, -⟩, ej⟩ := e
  refine ⟨h1, by rw [e8]; exact h2, by rw [e8]; exact h3, fun k a b => ?_⟩
  rw [e8] at b
  have := h4 k a b
  unfold kprL kTs at *
  rw [ej (150 + 6 * k) (by omega) (by omega), ej (150 + 6 * k + 1) (by omega) (by omega), ej (150 + 6 * k + 2) (by omega) (by omega), ej (150 + 6 * k + 4) (by omega) (by omega), ej (150 + 6 * k + 5) (by omega) (by omega)]
  exact this
/-- rounds of the class against those of the reference, in the loops that are open at k -/
def rRel (v r lp : Int → Int) (k : Int) : Prop := ∀ o, 0 ≤ o → o < k → k ≤ (v (150 + 6 * o + 4)) → (v (150 + 6 * o)) = 21 → r o = lp o + 1
theorem isLf_r {x : Int} (h : isLf x) : x = 78 ∨ x = 80 := h
theorem isC_q {c : Int} (h : isC c) : (c + 26 ≤ 58 ∧ 5 ≤ c) ∨ (106 ≤ c ∧ c ≤ 172) := by rcases h with rfl | rfl | rfl | rfl | rfl <;> omega
theorem isS_q {s : Int} (h : isS s) : (64 ≤ s ∧ s + 7 ≤ 78) ∨ (132 ≤ s ∧ s + 7 ≤ 139) ∨ (165 ≤ s ∧ s + 7 ≤ 172) ∨ (198 ≤ s ∧ s + 7 ≤ 205) := by rcases h with rfl | rfl | rfl | rfl | rfl <;> omega
theorem P_X4_stepOrMiss {G : Kg} {σ : Kmem} {x c k s : Int} {v : Int → Int} (hx : isLf x) (hc : isC c) (p : wf v ∧ kco σ c v ∧ sKt v k ∧ 0 ≤ s ∧ s < 5) : Run G WX M_X4_stepOrMiss 3 0 0 [vA G x, vA G c, vI k, vI s] σ (fun y t => y = 0 ∧ (sMay v k s → ∃ u, kfm (ctyC c) u σ ∧ kco u c (sWalk v k s) ∧ t = kup u x 4 (σ x 4 + 1)) ∧ (¬ sMay v k s → t = kup σ x 2 (σ x 2 + 1))) := by
  obtain ⟨w, kk, hk, hs⟩ := p
  have lx := isLf_r hx
  have lc := isC_q hc
  refine S_X4_stepOrMiss hx hc (Run.mono (P_X0_mayStep hc ⟨w, kk, hk, hs⟩) (fun y t z => ?_))
  rw [z.1, z.2]
  refine ⟨kb_r _, fun n => ⟨rfl, fun m => absurd m (kb_f n), fun _ => rfl⟩, fun n => Run.mono (P_X0_stepHand hc ⟨w, kk, hk, kb_t n, hs⟩) (fun y2 u z2 => ?_)⟩
  refine ⟨rfl, fun _ => ⟨u, z2.2.1, z2.2.2, ?_⟩, fun m => absurd (kb_t n) m⟩
  rw [z2.2.1 x (by omega)]
theorem P_X4_putCut {G : Kg} {σ : Kmem} {x c k b : Int} {v : Int → Int} (hx : isLf x) (hc : isC c) (p : wf v ∧ kco σ c v ∧ sKt v k ∧ (b = 0 ∨ b = 1)) : Run G WX M_X4_putCut 0 0 0 [vA G x, vA G (c + 6 + k), vI b] σ (fun y t => y = 0 ∧ t = kup (kup σ x 2 (σ x 2 + kb (v (34 + 9 * k + 8) = b))) (c + 6 + k) 9 b) := by
  obtain ⟨w, kk, hk, hb⟩ := p
  have w1 := wf_h w
  have hk1 := hk.1
  have hk2 := hk.2
  have kc := kk.2.2.1 k hk1 hk2
  have wk := w.2.2.1 k hk1 hk2
  refine S_X4_putCut hx (kIsX_kite hc ⟨by omega, by omega⟩) ⟨by omega, by omega, fun n => ⟨hb, rfl, ?_⟩, fun e => ⟨hb, rfl, ?_⟩⟩
  · rw [kb_0 (by omega), Int.add_zero, kup_k (x := x), ku_self, kst_id]
  · rw [kb_1 (by omega)]
theorem P_X4_holds {G : Kg} {σ : Kmem} {x s k c : Int} {v : Int → Int} (hx : isLf x) (hs : isS s) (hc : isC c) (p : wf v ∧ kco σ c v ∧ pwf v ∧ kpr σ s v ∧ (0 ≤ k ∧ k < v 8) ∧ 2024 ≤ (v (150 + 6 * k))) : Run G WX M_X4_holds 2 0 0 [vA G x, vA G s, vI k, vA G c, vA G 58] σ (fun y t => y = kb (sHolds v k) ∧ kfm sky1 t σ) := by
  obtain ⟨w, kk, pw, pr, hk, ho⟩ := p
  have w1 := wf_h w
  have ln := pw.2.1 k hk.1 hk.2
  have pl := pr.2.2.2 k hk.1 hk.2
  have p8 := pw.1
  have kh := kco_h kk
  obtain ⟨l1, l2, l3, l4, l5, l6, l7, l8, l9⟩ := ln
  obtain ⟨q1, q2, q3, q4, q5, q6⟩ := pl
  have t2 := q2 ho
  have th := q3 (Or.inr ho)
  have tr : rI (kTs v k) := by unfold kTs; (repeat' split) <;> omega
  unfold sHolds
  refine S_X4_holds hx hs hc ?_
  rw [t2, th]
  have purse : (v (150 + 6 * k)) = 2024 → (0 ≤ v (150 + 6 * k + 1) ∧ v (150 + 6 * k + 1) < 6) ∧ rI (v (34 + 9 * v (150 + 6 * k + 1) + 5)) ∧ rI (v (150 + 6 * k + 2)) ∧ σ (c + 6 + v (150 + 6 * k + 1)) 7 = v (34 + 9 * v (150 + 6 * k + 1) + 5) ∧ σ (s + 4) k = v (150 + 6 * k + 2) ∧ (60 ≤ v (150 + 6 * k + 5) ∧ v (150 + 6 * k + 5) ≤ 62) := by
    intro e
    have kt := l3 (by omega)
    have kt1 := kt.1
    have kt2 := kt.2
    have kc := kk.2.2.1 _ kt1 kt2
    have wk := w.2.2.1 _ kt1 kt2
    have l6 := l6 e
    exact ⟨by omega, by omega, by omega, kc.2.1.2.2, q5 (by omega), l6.2⟩
  by_cases e25 : (v (150 + 6 * k)) = 2025
  · have eT : kTs v k = 4 := by unfold kTs; rw [if_pos e25]
    rw [eT, kif_t e25]
    have l5 := l5 e25
    refine ⟨by omega, by omega, by omega, by decide, fun h => by omega, fun h => by omega, fun h => by omega, fun _ => ⟨by omega, Run.mono (P_X2_isRipe (kIsX_crop hc ⟨by omega, by omega⟩) ⟨w, kk, l5⟩) (fun y t z => ?_)⟩, fun h => by omega⟩
    rw [z.1, z.2]
    exact ⟨kb_01 _, rfl, kfm.refl⟩
  · by_cases e26 : (v (150 + 6 * k)) = 2026
    · have eT : kTs v k = 5 := by unfold kTs; rw [if_neg e25, if_pos e26]
      have kt := l3 (by omega)
      have kt1 := kt.1
      have kt2 := kt.2
      rw [eT, kif_f e25, kif_t e26]
      refine ⟨by omega, by omega, by omega, by decide, fun h => by omega, fun h => by omega, fun h => by omega, fun h => by omega, fun _ => ⟨by omega, Run.mono (P_X0_cutSet hc ⟨w, kk⟩) (fun y t z => ?_)⟩⟩
      rw [z.1, z.2, kh.2.1]
      refine Run.mono (P_X8_raise (v := v) (q := sCt v) hc ⟨w, kk, ⟨by omega, by omega⟩, rfl⟩) (fun y t z => ?_)
      obtain ⟨-, ft, st⟩ := z
      have ek : v (150 + 6 * k + 1) = (((v (150 + 6 * k + 1)).toNat : Nat) : Int) := by omega
      rw [ek]
      refine Run.mono (P_X8_isUp (k := (v (150 + 6 * k + 1)).toNat) ⟨by omega, by omega, st.2.1⟩) (fun y u z => ?_)
      rw [z.1, z.2]
      refine ⟨kb_01 _, kb_iff ?_, ft⟩
      rw [← ek]
      unfold sUp
      exact ⟨fun y => ⟨y.2, y.1⟩, fun y => ⟨y.2, y.1⟩⟩
    · obtain ⟨b1, b2, b3, b4, b5, b6⟩ := purse (by omega)
      rw [kif_f e25, kif_f e26, b4, b5]
      by_cases s60 : v (150 + 6 * k + 5) = 60
      · have eT : kTs v k = 1 := by unfold kTs; rw [if_neg e25, if_neg e26, if_pos s60]
        rw [eT, kif_t s60]
        exact ⟨by omega, by omega, by omega, by decide, fun _ => ⟨b1, b2, b3, fun h => ⟨(kb_0 (by omega)).symm, kfm.refl⟩, fun h => ⟨(kb_1 h).symm, kfm.refl⟩⟩, fun h => by omega, fun h => by omega, fun h => by omega, fun h => by omega⟩
      · by_cases s62 : v (150 + 6 * k + 5) = 62
        · have eT : kTs v k = 2 := by unfold kTs; rw [if_neg e25, if_neg e26, if_neg s60, if_pos s62]
          rw [eT, kif_f s60, kif_t s62]
          exact ⟨by omega, by omega, by omega, by decide, fun h => by omega, fun _ => ⟨b1, b2, b3, fun h => ⟨(kb_0 (by omega)).symm, kfm.refl⟩, fun h => ⟨(kb_1 h).symm, kfm.refl⟩⟩, fun h => by omega, fun h => by omega, fun h => by omega⟩
        · have eT : kTs v k = 3 := by unfold kTs; rw [if_neg e25, if_neg e26, if_neg s60, if_neg s62]
          rw [eT, kif_f s60, kif_f s62]
          exact ⟨by omega, by omega, by omega, by decide, fun h => by omega, fun h => by omega, fun _ => ⟨b1, b2, b3, fun h => ⟨(kb_0 h).symm, kfm.refl⟩, fun h => ⟨(kb_1 h).symm, kfm.refl⟩⟩, fun h => by omega, fun h => by omega⟩
