/-! the reference settles its tenants -/
def sFor (v : Int → Int) (st t f : Int) : Prop := (0 ≤ t ∧ t < v 4) ∧ r7 f ∧ sFld v (f % 10) (f / 10) ∧ sOwn v (f % 10) (f / 10) (v 7 % 12) = v (120 + 5 * t + 2) ∧ sDist v t (f % 10) (f / 10) ≤ st
theorem sFor_r {v : Int → Int} {st t f : Int} (h : sFor v st t f) : r7 f := h.2.1
theorem P_X12_isFor {G : Kg} {σ : Kmem} {t f st : Int} (p : wf (σ 1) ∧ (0 ≤ t ∧ t < σ 1 4) ∧ r7 f ∧ (0 ≤ st ∧ st ≤ 20)) : Run G WM M_X12_isFor 7 0 0 [vA G 0, vI t, vI f, vI st] σ (fun x s => x = kb (sFor (σ 1) st t f) ∧ s = σ) := by
  obtain ⟨w, ht, hf, hs⟩ := p
  have w1 := wf_h w
  have wt := w.2.2.2.2 t ht.1 ht.2
  have o := sOwn_r (v := σ 1) (c := f % 10) (r := f / 10) (h := σ 1 7 % 12) w
  refine S_X12_isFor ⟨by omega, by omega, ⟨⟨by omega, by omega⟩, w⟩, fun n => ⟨(kb_0 (fun y => n y.2.2.1)).symm, rfl⟩, fun y => ⟨by omega, by omega, by omega, ⟨w, by omega, by omega, by omega⟩, by omega, by omega, by omega, fun n => ⟨(kb_0 (fun z => n z.2.2.2.1)).symm, rfl⟩, fun e => ⟨by omega, by omega, ⟨w, ht, by omega, by omega, by omega⟩, ?_, by omega, fun n => ⟨(kb_0 (fun z => by have z2 : kabs (σ 1 (120 + 5 * t) - f % 10) + kabs (σ 1 (120 + 5 * t + 1) - f / 10) ≤ st := z.2.2.2.2; omega)).symm, rfl⟩, fun n => ⟨(kb_1 ⟨ht, hf, y, e, n⟩).symm, rfl⟩⟩⟩⟩
  have := sDist_r (v := σ 1) (t := t) (c := f % 10) (r := f / 10) w ht (by omega) (by omega)
  have this : 0 ≤ kabs (σ 1 (120 + 5 * t) - f % 10) + kabs (σ 1 (120 + 5 * t + 1) - f / 10) ∧ kabs (σ 1 (120 + 5 * t) - f % 10) + kabs (σ 1 (120 + 5 * t + 1) - f / 10) ≤ 400 := this
  omega
/-- told on fields alone -/
noncomputable def kre (R : Int → Int) (g : Int) : Int := @ite Int (r7 g) (Classical.propDecidable _) (R g) (-1)
theorem kre_in {R : Int → Int} {g : Int} (h : r7 g) : kre R g = R g := if_pos h
theorem kre_out {R : Int → Int} {g : Int} (h : ¬ r7 g) : kre R g = -1 := if_neg h
theorem kre_ku {R : Int → Int} {f x : Int} (h : r7 f) : kre (ku R f x) = ku (kre R) f x := by
  funext g
  by_cases e : g = f
  · subst e; rw [ku_eq, kre_in h, ku_eq]
  · rw [ku_ne e]
    by_cases q : r7 g
    · rw [kre_in q, kre_in q, ku_ne e]
    · rw [kre_out q, kre_out q]
abbrev seA (x : Int) : Prop := 11 ≤ x ∧ x ≤ 13
/-- all along the path back -/
theorem gives_loop {G : Kg} {A : Int → Int → Prop} {t many i0 f0 : Int} {K R0 q R : Int → Int} {D : Int → Prop} {Q : Int → Kmem → Prop} {σ : Kmem} (ht : 0 ≤ t ∧ t < 6) (hA : ∀ t f, A t f → r7 f) (hD : mDead A t K D) (hK : mOK A t K) (hB : mB A t K R0 q many i0 f0) (hR0 : ∀ g, R0 g ≠ -1 → R g = R0 g) (hnc : ¬ mCov K t)
    (hQ : ∀ s, kfm seA s σ → mOK A (t + 1) (s 11) → mDead A (t + 1) (s 11) D → (∀ x, x ≠ -1 → (mCov (s 11) x ↔ mCov K x ∨ x = t)) → Q 0 s) :
    ∀ (n : Nat) (τ : Kmem) (f j : Int), j < n → kfm seA τ σ → τ 12 = R → mP A t many K R q D (τ 11) f j → E_X12_gives0_2 G t f τ Q := by
  intro n
  induction n with
  | zero => intro τ f j hj _ _ h; have := h.1.2.1; omega
  | succ n ih =>
    intro τ f j hj hfm hR h
    have hB2 := hB
    obtain ⟨b1, b2, b3, -⟩ := hB2
    obtain ⟨hf, hjm, hRf, ha⟩ := h.1
    have qj := b2 j hjm.1 hjm.2
    refine S_X12_gives0_2 (l1 := 0) ⟨by omega, fun e => by omega, fun _ => ⟨by omega, ?_⟩⟩
    rw [hR, hRf]
    refine kloopP (E := fun o z => E_X12_gives0_21 G t f (q j) z o τ Q) (fun o z => (z = -1 ∧ ∀ g : Int, 0 ≤ g → g < o → ¬ (q j ≠ t ∧ g ≠ f ∧ τ 11 g = q j)) ∨ (r7 z ∧ q j ≠ t ∧ z ≠ f ∧ τ 11 z = q j)) 70 (fun o z ho hI jh => S_X12_gives0_21 (l1 := 0) ⟨by omega, fun e => ⟨by omega, ?_⟩, fun e => ⟨by omega, by omega, fun e1 => jh (by omega) z ?_, fun e1 => ⟨by omega, fun e2 => jh (by omega) z ?_, fun e2 => ⟨by omega, ?_, fun e3 => jh (by omega) z ?_, fun e3 => jh (by omega) o (Or.inr ⟨by omega, e1, e2, e3⟩)⟩⟩⟩⟩) (Or.inl ⟨rfl, fun g a b => by omega⟩)
    · have eo : (o : Int) = 70 := by omega
      rw [eo] at hI
      by_cases j0 : j = 0
      · have qt : q j = t := by rw [j0]; exact b1.1
        rcases hI with ⟨z1, -⟩ | z1
        · subst z1
          have fin := mP_end ht.1 hD hA h qt hnc
          refine S_X12_gives0_2 (l1 := 0) ⟨by omega, fun _ => hQ _ ((kfm_kup (by omega)).trans hfm) ?_ ?_ ?_, fun e => absurd rfl e⟩
          · rw [kup_k, kst_eq, qt]; exact fin.1
          · rw [kup_k, kst_eq, qt]; exact fin.2.1
          · rw [kup_k, kst_eq, qt]; exact fin.2.2
        · exact absurd qt z1.2.1
      · have jp : 0 < j := by omega
        have qt : q j ≠ t := fun e => by
          have := b3 j 0 hjm.1 hjm.2 (by omega) (by omega) (by rw [e, b1.1]); omega
        rcases hI with ⟨z1, z2⟩ | z1
        · obtain ⟨g, g1, g2, g3⟩ := mP_has hB h jp
          exact absurd ⟨qt, g2, g3⟩ (z2 g g1.1 g1.2)
        · obtain ⟨j', jl, hp⟩ := mP_next hD hK hB hR0 h jp ⟨z1.1, z1.2.2.1, z1.2.2.2⟩
          refine ih _ z j' (by omega) ((kfm_kup (by omega)).trans hfm) ?_ ?_
          · rw [← hR]; funext k; exact kup_x (by omega)
          · rw [kup_k, kst_eq]; exact hp
    · rcases hI with ⟨z1, z2⟩ | z1
      · refine Or.inl ⟨z1, fun g a b => ?_⟩
        by_cases e3 : g = o
        · exact fun y => y.1 e1
        · exact z2 g a (by omega)
      · exact absurd e1 z1.2.1
    · rcases hI with ⟨z1, z2⟩ | z1
      · refine Or.inl ⟨z1, fun g a b => ?_⟩
        by_cases e3 : g = o
        · exact fun y => y.2.1 (by omega)
        · exact z2 g a (by omega)
      · exact Or.inr z1
    · have := h.2.1 o (by omega) e2; omega
    · rcases hI with ⟨z1, z2⟩ | z1
      · refine Or.inl ⟨z1, fun g a b => ?_⟩
        by_cases e4 : g = o
        · subst e4; exact fun y => e3 y.2.2
        · exact z2 g a (by omega)
      · exact Or.inr z1
theorem P_X12_settles {G : Kg} {σ : Kmem} {t st : Int} {D : Int → Prop} (p : wf (σ 1) ∧ (0 ≤ t ∧ t < σ 1 4) ∧ (0 ≤ st ∧ st ≤ 20) ∧ mOK (sFor (σ 1) st) t (σ 11) ∧ mDead (sFor (σ 1) st) t (σ 11) D) :
    Run G WM M_X12_settles 8 0 0 [vA G 0, vI t, vI st] σ (fun x s => kfm seA s σ ∧ mOK (sFor (σ 1) st) (t + 1) (s 11) ∧ (∃ D', mDead (sFor (σ 1) st) (t + 1) (s 11) D') ∧ ((x = 0 ∧ s 11 = σ 11 ∧ ¬ mCov (σ 11) t) ∨ (x = 1 ∧ ∀ y, y ≠ -1 → (mCov (s 11) y ↔ mCov (σ 11) y ∨ y = t)))) := by
  obtain ⟨w, ht, hs, hK, hD⟩ := p
  have w1 := wf_h w
  generalize hA : sFor (σ 1) st = A at *
  have hr : ∀ t f, A t f → r7 f := fun t f h => by rw [← hA] at h; exact h.2.1
  have hnc : ¬ mCov (σ 11) t := by
    rintro ⟨f, hf, e⟩
    rcases hK.1 f hf with z | z <;> omega
  refine S_X12_settles ?_
  generalize hQ : (fun (x : Int) (s : Kmem) => kfm seA s σ ∧ mOK A (t + 1) (s 11) ∧ (∃ D', mDead A (t + 1) (s 11) D') ∧ ((x = 0 ∧ s 11 = σ 11 ∧ ¬ mCov (σ 11) t) ∨ (x = 1 ∧ ∀ y, y ≠ -1 → (mCov (s 11) y ↔ mCov (σ 11) y ∨ y = t)))) = Q
  refine kloopP (E := fun f τ => E_X12_settles_2 G t st f τ Q) (fun f τ => kfm (fun x => x = 12) τ σ ∧ ∀ g : Int, 0 ≤ g → g < f → τ 12 g = -1) 70 (fun f τ hf hI jh => S_X12_settles_2 ⟨by omega, fun e => ?_, fun e => ⟨by omega, jh (by omega) _ ⟨kfm_at.trans hI.1, fun g a b => ?_⟩⟩⟩) ⟨kfm.refl, fun g a b => by omega⟩
  rotate_left
  · by_cases z : g = f
    · rw [z, kup_at]
    · rw [kup_j z]; exact hI.2 g a (by omega)
  obtain ⟨f1, r1⟩ := hI
  have ef : (f : Int) = 70 := by omega
  rw [ef] at r1
  -- R is told on fields alone
  let I : Int → Int → Int → Kmem → Prop := fun many i f u => kfm seA u σ ∧ u 11 = σ 11 ∧ (mB A t (σ 11) (kre (u 12)) (u 13) many i f)
  have Rin : ∀ (u : Kmem) (g : Int), r7 g → kre (u 12) g = u 12 g := fun u g h => kre_in h
  have Rout : ∀ (u : Kmem) (g : Int), ¬ r7 g → kre (u 12) g = -1 := fun u g h => kre_out h
  have A34 : ∀ x f, A x f → 0 ≤ x ∧ x < σ 1 4 := fun x f h => by rw [← hA] at h; exact h.1
  -- one field of the scan
  have scan : ∀ (m : Nat) (many i f : Int) (u : Kmem), 70 - f ≤ m → 0 ≤ f → f ≤ 70 → i < many → I many i f u → (∀ (many' : Int) (u' : Kmem), i < many' → I many' (i + 1) 0 u' → E_X12_settles_33 G t st many' (i + 1) u' Q) → E_X12_settles_42 G t st many i f u Q := by
    intro m
    induction m with
    | zero =>
      intro many i f u hm h0 h70 him hI nx
      obtain ⟨u1, u2, u3⟩ := hI
      have e : f = 70 := by omega
      subst e
      exact S_X12_settles_42 ⟨by omega, fun _ => nx many u him ⟨u1, u2, mB_next hr u3⟩, fun y => by omega⟩
    | succ m ih =>
      intro many i f u hm h0 h70 him hI nx
      obtain ⟨u1, u2, u3⟩ := hI
      have u3' := u3
      obtain ⟨b1, b2, b3, b4, b5, b6, b7⟩ := u3'
      have usig : u 1 = σ 1 := u1 1 (by omega)
      have qi := b2 i b1.2.2.1 him
      have rr : ∀ g, r7 g → rI (u 12 g) := fun g hg => by
        by_cases z : u 12 g = -1
        · rw [z]; decide
        · obtain ⟨j, k, c1, c2, c3, -⟩ := b4 g hg (by rw [Rin u g hg]; exact z)
          rw [Rin u g hg] at c3
          have := b2 j c1.1 (by omega)
          omega
      refine S_X12_settles_42 ⟨by omega, fun y => nx many u him ⟨u1, u2, ?_⟩, fun y => ?_⟩
      · have e : f = 70 := by omega
        subst e; exact mB_next hr u3
      have hf7 : r7 f := ⟨h0, by omega⟩
      refine ⟨by omega, rr f hf7, fun y2 => ih many i (f + 1) u (by omega) (by omega) (by omega) him ⟨u1, u2, mB_skip u3 (fun _ => by rw [Rin u f hf7]; exact y2)⟩ nx, fun y2 => ⟨by omega, Run.mono (P_X12_isFor (by rw [usig]; exact ⟨w, by omega, hf7, hs⟩)) (fun x s z => ?_)⟩⟩
      rw [z.1, z.2, usig, hA]
      refine ⟨kb_r _, fun y3 => ?_, fun y3 => ih many i (f + 1) u (by omega) (by omega) (by omega) him ⟨u1, u2, mB_skip u3 (fun a => absurd a (kb_f y3))⟩ nx⟩
      have af := kb_t y3
      have e11 : (kup u 12 f (u 13 i)) 11 f = σ 11 f := by rw [kup_x (by omega), u2]
      have e13 : (kup u 12 f (u 13 i)) 13 = u 13 := by funext k; exact kup_x (by omega)
      have k11 := hK.1 f hf7
      have hRf : kre (u 12) f = -1 := by rw [Rin u f hf7]; exact y2
      have eRu := kre_ku (R := u 12) (x := u 13 i) hf7
      rw [e11]
      refine ⟨by omega, by omega, by omega, by omega, fun y4 => ?_, fun y4 => ?_⟩
      · have mn := mB_many (by omega) hK u3 hf7 hRf y4
        refine ⟨by omega, by omega, ih (many + 1) i (f + 1) _ (by omega) (by omega) (by omega) (by omega) ⟨?_, ?_, ?_⟩ nx⟩
        · exact (kfm_kup (by omega)).trans ((kfm_kup (by omega)).trans u1)
        · rw [← u2]; funext k; rw [kup_x (by omega), kup_x (by omega)]
        · have := mB_push (by omega) hK u3 him hf7 hRf y4 af
          rw [← eRu] at this
          have c12 : ∀ y : Int, (kup (kup u 12 f (u 13 i)) 13 many y) 12 = ku (u 12) f (u 13 i) := fun y => by
            funext k
            rw [kup_x (by omega), kup_k, kst_eq]
          have c13 : ∀ y : Int, (kup (kup u 12 f (u 13 i)) 13 many y) 13 = ku (u 13) many y := fun y => by
            rw [kup_k, kst_eq, e13]
          rw [c12, c13]
          exact this
      · refine Run.mono (S_X12_gives0 (Q := fun _ s => Q 1 s) ?_) (fun _ s z => z)
        refine gives_loop (A := A) (t := t) (many := many) (i0 := i) (f0 := f) (K := σ 11) (R0 := kre (u 12)) (q := u 13) (R := ku (u 12) f (u 13 i)) (D := D) (σ := σ) (by omega) hr hD hK u3 (fun g hg => ?_) hnc (fun s s1 s2 s3 s4 => ?_) (i.toNat + 1) (kup u 12 f (u 13 i)) f i (by omega) ((kfm_kup (by omega)).trans u1) (by rw [kup_k, kst_eq]) ?_
        · by_cases e : g = f
          · subst e; exact absurd hRf hg
          · rw [ku_ne e]
            by_cases h7 : r7 g
            · exact (Rin u g h7).symm
            · exact absurd (Rout u g h7) hg
        · rw [← hQ]
          exact ⟨s1, s2, ⟨D, s3⟩, Or.inr ⟨rfl, s4⟩⟩
        · have e11' : (kup u 12 f (u 13 i)) 11 = σ 11 := by rw [← u2]; funext k; exact kup_x (by omega)
          rw [e11']
          exact mP_0 (R := u 12) (f := f) (i := i) (many := many) (q := u 13) (D := D) hK ⟨b1, b2, b3, fun g g1 g2 => by have := b4 g g1 (by rw [Rin u g g1]; exact g2); rw [Rin u g g1] at this; exact this, fun j a b => by
            obtain ⟨g, g1, g2, g3⟩ := b5 j a b
            exact ⟨g, g1, g2, by rw [Rin u g g1] at g3; exact g3⟩, fun j a b g hg => by have := b6 j a b g hg; rw [Rin u g (hr _ _ hg)] at this; exact this, fun g a b => by have := b7 g a b; rw [Rin u g (hr _ _ b)] at this; exact this⟩ him hf7 y4 af
  -- the queue
  have queue : ∀ (m : Nat) (many i : Int) (u : Kmem), 6 - i ≤ m → i ≤ many → I many i 0 u → E_X12_settles_33 G t st many i u Q := by
    intro m
    induction m with
    | zero =>
      intro many i u hm him hI
      obtain ⟨u1, u2, u3⟩ := hI
      have b1 := u3.1
      refine S_X12_settles_33 ⟨by omega, by omega, fun le => ?_, fun lt => by omega⟩
      have fl := mB_fail ht.1 hr hK u3 le hD
      rw [← hQ]
      exact ⟨u1, by rw [u2]; exact fl.1, ⟨_, by rw [u2]; exact fl.2.1⟩, Or.inl ⟨rfl, u2, hnc⟩⟩
    | succ m ih =>
      intro many i u hm him hI
      have hI2 := hI
      obtain ⟨u1, u2, u3⟩ := hI
      have b1 := u3.1
      refine S_X12_settles_33 ⟨by omega, by omega, fun le => ?_, fun lt => ?_⟩
      · have fl := mB_fail ht.1 hr hK u3 le hD
        rw [← hQ]
        exact ⟨u1, by rw [u2]; exact fl.1, ⟨_, by rw [u2]; exact fl.2.1⟩, Or.inl ⟨rfl, u2, hnc⟩⟩
      · exact scan 70 many i 0 u (by omega) (by omega) (by omega) lt hI2 (fun many' u' h1 h2 => ih many' (i + 1) u' (by omega) (by omega) h2)
  refine queue 6 1 0 (kup τ 13 0 t) (by omega) (by omega) ⟨(kfm_kup (by omega)).trans (f1.wide (fun x e => by omega)), ?_, ?_⟩
  · rw [← f1 11 (by omega)]; funext k; exact kup_x (by omega)
  · have e12 : ∀ g, kre ((kup τ 13 0 t) 12) g = -1 := fun g => by
      by_cases h : r7 g
      · rw [kre_in h, kup_x (by omega)]; exact r1 g h.1 h.2
      · rw [kre_out h]
    have q0 : (kup τ 13 0 t) 13 0 = t := kup_at
    refine ⟨⟨q0, by omega, by omega, by omega⟩, fun j a b => ?_, fun j k a b c d _ => by omega, fun g _ h => absurd (e12 g) h, fun j a b => by omega, fun j a b => by omega, fun g hg a => ?_⟩
    · rw [show j = 0 by omega, q0]; omega
    · have := hr _ _ a; omega
/-- the most tenants that can be settled -/
def isMost (v : Int → Int) (st x : Int) : Prop := (∃ S, mAble (sFor v st) r7 S ∧ kcn S (v 4).toNat = x) ∧ ∀ S, mAble (sFor v st) r7 S → kcn S (v 4).toNat ≤ x
theorem isMost_u {v : Int → Int} {st x y : Int} (h : isMost v st x) (g : isMost v st y) : x = y := by
  obtain ⟨⟨S, s1, s2⟩, s3⟩ := h
  obtain ⟨⟨S', t1, t2⟩, t3⟩ := g
  have a := s3 S' t1
  have b := t3 S s1
  omega
theorem P_X12_settle {G : Kg} {σ : Kmem} {st : Int} (p : wf (σ 1) ∧ rI st) : Run G WM M_X12_settle 9 0 0 [vA G 0, vI st] σ (fun x s => (¬ (0 ≤ st ∧ st ≤ 20) → x = -1 ∧ s = kup σ 0 2 1) ∧ ((0 ≤ st ∧ st ≤ 20) → isMost (σ 1) st x ∧ ∃ u, kfm seA u σ ∧ s = kup u 0 2 0)) := by
  obtain ⟨w, hr⟩ := p
  have w1 := wf_h w
  refine S_X12_settle ⟨hr, by omega, fun hs => ?_, fun n => ⟨fun _ => ⟨rfl, rfl⟩, fun y => absurd y n⟩⟩
  generalize hQ : (fun (x : Int) (s : Kmem) => (¬ (0 ≤ st ∧ st ≤ 20) → x = -1 ∧ s = kup σ 0 2 1) ∧ ((0 ≤ st ∧ st ≤ 20) → isMost (σ 1) st x ∧ ∃ u, kfm seA u σ ∧ s = kup u 0 2 0)) = Q
  refine kloopP (E := fun f τ => E_X12_settle_20 G st f τ Q) (fun f τ => kfm (fun x => x = 11) τ σ ∧ ∀ g : Int, 0 ≤ g → g < f → τ 11 g = -1) 70 (fun f τ hf hI jh => S_X12_settle_20 ⟨by omega, fun e => ?_, fun e => ⟨by omega, jh (by omega) _ ⟨kfm_at.trans hI.1, fun g a b => ?_⟩⟩⟩) ⟨kfm.refl, fun g a b => by omega⟩
  rotate_left
  · by_cases z : g = f
    · rw [z, kup_at]
    · rw [kup_j z]; exact hI.2 g a (by omega)
  obtain ⟨f1, r1⟩ := hI
  have ef : (f : Int) = 70 := by omega
  rw [ef] at r1
  have nocov : ∀ t, t ≠ -1 → ¬ mCov (τ 11) t := fun t ht ⟨g, g1, g2⟩ => by rw [r1 g g1.1 g1.2] at g2; omega
  refine kloopP (E := fun t (z : Int × Kmem) => E_X12_settle_43 G st z.1 t z.2 Q) (fun t z => kfm seA z.2 σ ∧ mOK (sFor (σ 1) st) t (z.2 11) ∧ (∃ D, mDead (sFor (σ 1) st) t (z.2 11) D) ∧ z.1 = kcn (mCov (z.2 11)) t) (σ 1 4).toNat (fun t z ht hI jh => S_X12_settle_43 ?_) (τ := (0, τ)) ⟨f1.wide (fun x e => by omega), ⟨fun g hg => Or.inl (r1 g hg.1 hg.2), fun g h hg hh e n => absurd (r1 g hg.1 hg.2) n⟩, ⟨fun _ => False, fun t a b => by omega, fun d h => h.elim⟩, rfl⟩
  obtain ⟨u1, u2, ⟨D, u3⟩, u4⟩ := hI
  have u5 : z.2 1 = σ 1 := u1 1 (by omega)
  rw [u5]
  refine ⟨by omega, by omega, fun q => ?_, fun q => Run.mono (P_X12_settles (D := D) (by rw [u5]; exact ⟨w, by omega, hs, u2, u3⟩)) (fun x s y => ?_)⟩
  · have et : t = (σ 1 4).toNat := by omega
    rw [et] at u2 u3 u4
    have e4 : (((σ 1 4).toNat : Nat) : Int) = σ 1 4 := by omega
    rw [← hQ]
    refine ⟨fun n => absurd hs n, fun _ => ⟨⟨⟨_, mAble_cov u2, ?_⟩, fun S hS => ?_⟩, z.2, u1, rfl⟩⟩
    · rw [u4]; exact kcn_ext _ (fun i hi => ⟨fun y => y.2, fun y => ⟨by omega, y⟩⟩)
    · rw [u4]
      exact mAble_le (fun t f h => ⟨h.2.1, h.1.1, by have := h.1.2; omega⟩) u2 u3 hS
  · rw [u5] at y
    obtain ⟨y1, y2, y3, y4⟩ := y
    have y1' : kfm seA s σ := y1.trans u1
    rcases y4 with ⟨rfl, e11, nc⟩ | ⟨rfl, cv⟩
    · refine ⟨by decide, fun _ => jh (by omega) (z.1 + 0, s) ⟨y1', y2, y3, ?_⟩, fun e => absurd rfl e⟩
      show z.1 + 0 = kcn (mCov (s 11)) (t + 1)
      rw [kcn_s, e11, kb_0 nc, u4]
    · refine ⟨by decide, fun e => absurd e (by decide), fun _ => jh (by omega) (z.1 + 1, s) ⟨y1', y2, y3, ?_⟩⟩
      show z.1 + 1 = kcn (mCov (s 11)) (t + 1)
      rw [kcn_s, kb_1 ((cv t (by omega)).2 (Or.inr rfl)), u4]
      congr 1
      exact kcn_ext _ (fun i hi => ⟨fun y => (cv i (by omega)).2 (Or.inl y), fun y => ((cv i (by omega)).1 y).resolve_right (by omega)⟩)
