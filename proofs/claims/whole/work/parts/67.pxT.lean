/-! plans: strips -/
abbrev stA (x : Int) : Prop := (58 ≤ x ∧ x ≤ 63) ∨ (90 ≤ x ∧ x ≤ 95)
abbrev dk (K C k c : Int) : Prop := k < K ∨ k = K ∧ c < C
theorem sStrip_s {v : Int → Int} {k c r : Int} (h : Nat) : kfor (fun h n => n + kb (sShd v k c r h)) (h + 1) 0 = kfor (fun h n => n + kb (sShd v k c r h)) h 0 + kb (sShd v k c r h) := rfl
theorem P_X5_countStrips {G : Kg} {σ : Kmem} {row : Int} {v : Int → Int} (p : (wf v ∧ kco σ 31 v) ∧ 0 ≤ row ∧ row < v 1) : Run G WX M_X5_countStrips 4 0 0 [vA G 82, vI row] σ (fun x s => x = 0 ∧ kfm stA s σ ∧ ∀ k c, sKt v k → 0 ≤ c → c < v 0 → s (90 + k) c = sStrip v k c row) := by
  obtain ⟨⟨w, kk⟩, hr⟩ := p
  have hc : isC 31 := Or.inr (Or.inl rfl)
  have w1 := wf_h w
  refine S_X5_countStrips ?_
  generalize hQ : (fun (x : Int) (s : Kmem) => x = 0 ∧ kfm stA s σ ∧ ∀ k c, sKt v k → 0 ≤ c → c < v 0 → s (90 + k) c = sStrip v k c row) = Q
  refine kloopP (E := fun i τ => E_X5_countStrips_2 G row i τ Q) (fun i τ => kfm stA τ σ ∧ ∀ k c : Int, 0 ≤ k → k < i → 0 ≤ c → c < 9 → τ (90 + k) c = 0) 6 (fun i τ hi hI ih => S_X5_countStrips_2 ⟨by omega, fun q => ?_, fun q => ?_⟩) ⟨kfm.refl, fun k c a b => by omega⟩
  rotate_left
  · refine kloopP (E := fun j u => E_X5_countStrips_10 G row i j u Q) (fun j u => kfm stA u σ ∧ ∀ k c : Int, 0 ≤ k → dk i j k c → 0 ≤ c → c < 9 → u (90 + k) c = 0) 9 (fun j u hj hJ jh => S_X5_countStrips_10 ⟨by omega, fun z => ih (by omega) u ⟨hJ.1, fun k c a b m1 m2 => hJ.2 k c a (by omega) m1 m2⟩, fun z => ⟨by omega, by omega, jh (by omega) _ ⟨(kfm_at.wide (fun x e => Or.inr (by omega))).trans hJ.1, fun k c a b m1 m2 => ?_⟩⟩⟩) ⟨hI.1, fun k c a b m1 m2 => hI.2 k c a (by omega) m1 m2⟩
    by_cases e : 90 + k = 90 + (i : Int)
    · rw [e]
      by_cases e2 : c = j
      · rw [e2, kup_at]
      · rw [kup_j e2, show 90 + (i : Int) = 90 + k by omega]; exact hJ.2 k c a (by omega) m1 m2
    · rw [kup_x e]; exact hJ.2 k c a (by omega) m1 m2
  obtain ⟨f1, z1⟩ := hI
  refine kloopP (E := fun h τ => E_X5_countStrips_39 G row h τ Q) (fun h τ => kfm stA τ σ ∧ ∀ k c, sKt v k → 0 ≤ c → c < v 0 → τ (90 + k) c = kfor (fun h n => n + kb (sShd v k c row h)) h 0) 12 (fun h τ hh hI jh => S_X5_countStrips_39 ⟨by omega, fun q => ?_, fun q => ?_⟩) ⟨f1, fun k c a m1 m2 => z1 k c a.1 (by have := a.2; omega) m1 (by omega)⟩
  · rw [← hQ]
    refine ⟨rfl, hI.1, fun k c a m1 m2 => ?_⟩
    rw [hI.2 k c a m1 m2, show h = 12 by omega]; rfl
  obtain ⟨f2, z2⟩ := hI
  have k2 := kco_kfm w kk f2 (fun x a b u => by omega)
  refine Run.mono (P_X8_lookPastCuts hc ⟨w, k2, by omega⟩) (fun x s e => ?_)
  obtain ⟨-, f3, k3, -, d3⟩ := e
  have kh := kco_h k3
  have s9 : ∀ k : Int, 0 ≤ k → s (90 + k) = τ (90 + k) := fun k a => f3 (90 + k) (fun u => by have := u.1; have := u.2; omega)
  have bit : ∀ k c : Int, sKt v k → 0 ≤ c → c < v 0 → kand (kshr (s 62 (row * 9 + c)) k) 1 = kb (sShd v k c row h) := by
    intro k c hk m1 m2
    have dd := (d3 (row * 9 + c) (by omega) (by omega)).1
    have sr := sSetI_r (v := v) (q := fun _ => False) (h := h) (f := row * 9 + c) (i := (v 2).toNat) (by omega)
    have hk1 := hk.1
    have hk2 := hk.2
    rw [dd, kin_bit ⟨by omega, by omega⟩ ⟨by omega, by omega⟩]
    refine kb_iff ?_
    obtain ⟨n, rfl⟩ := Int.eq_ofNat_of_zero_le hk1
    unfold sSetI
    rw [sIn_kset]
    unfold sOn
    rw [show (row * 9 + c) % 9 = c by omega, show (row * 9 + c) / 9 = row by omega]
    exact ⟨fun y => y.2.2.2, fun y => ⟨by omega, ⟨⟨m1, m2⟩, hr⟩, fun z => z, y⟩⟩
  refine kloopP (E := fun k u => E_X5_countStrips_59 G row h k u Q) (fun K u => kfm stA u s ∧ u 62 = s 62 ∧ u 31 = s 31 ∧ ∀ k c, sKt v k → 0 ≤ c → c < v 0 → u (90 + k) c = s (90 + k) c + kb (dk K 0 k c ∧ sShd v k c row h)) (v 2).toNat (fun K u hK hI mh => S_X5_countStrips_59 ⟨by omega, by rw [hI.2.2.1]; omega, fun q => ?_, fun q => ?_⟩) ⟨kfm.refl, rfl, rfl, fun k c a m1 m2 => by have a1 := a.1; rw [kb_0 (fun z => by omega)]; omega⟩
  · rw [hI.2.2.1] at q
    refine jh (by omega) u ⟨hI.1.trans ((f3.wide (fun x e => Or.inl e)).trans f2), fun k c a m1 m2 => ?_⟩
    have a1 := a.1
    have a2 := a.2
    rw [hI.2.2.2 k c a m1 m2, s9 k a1, z2 k c a m1 m2, sStrip_s]
    exact congrArg (fun z => kfor (fun h n => n + kb (sShd v k c row h)) h 0 + z) (kb_iff ⟨fun y => y.2, fun y => ⟨by omega, y⟩⟩)
  · rw [hI.2.2.1] at q
    refine kloopP (E := fun C y => E_X5_countStrips_73 G row h K C y Q) (fun C y => kfm stA y s ∧ y 62 = s 62 ∧ y 31 = s 31 ∧ ∀ k c, sKt v k → 0 ≤ c → c < v 0 → y (90 + k) c = s (90 + k) c + kb (dk K C k c ∧ sShd v k c row h)) (v 0).toNat (fun C y hC hJ nh => S_X5_countStrips_73 ⟨by omega, by rw [hJ.2.2.1]; omega, fun z => ?_, fun z => ?_⟩) hI
    · rw [hJ.2.2.1] at z
      refine mh (by omega) y ⟨hJ.1, hJ.2.1, hJ.2.2.1, fun k c a m1 m2 => ?_⟩
      rw [hJ.2.2.2 k c a m1 m2]
      exact congrArg (fun z => s (90 + k) c + z) (kb_iff ⟨fun y => ⟨by omega, y.2⟩, fun y => ⟨by omega, y.2⟩⟩)
    · rw [hJ.2.2.1] at z
      refine ⟨by omega, by omega, by omega, by omega, nh (by omega) _ ⟨(kfm_at.wide (fun x e => Or.inr (by omega))).trans hJ.1, by rw [← hJ.2.1]; funext j; exact kup_x (by omega), by rw [← hJ.2.2.1]; funext j; exact kup_x (by omega), fun k c a m1 m2 => ?_⟩⟩
      have a1 := a.1
      by_cases e : k = K
      · subst e
        by_cases e2 : c = C
        · subst e2
          rw [kup_at, hJ.2.1, bit _ _ a m1 m2, hJ.2.2.2 _ _ a m1 m2, kb_0 (P := dk K C K C ∧ _) (fun y => by omega)]
          rw [kb_iff (P := dk K ((C + 1 : Nat) : Int) K C ∧ _) (R := sShd v K C row h) ⟨fun y => y.2, fun y => ⟨by omega, y⟩⟩]
          omega
        · rw [kup_j e2, hJ.2.2.2 _ _ a m1 m2]
          exact congrArg (fun z => s (90 + (K : Int)) c + z) (kb_iff ⟨fun y => ⟨by omega, y.2⟩, fun y => ⟨by omega, y.2⟩⟩)
      · rw [kup_x (by omega), hJ.2.2.2 _ _ a m1 m2]
        exact congrArg (fun z => s (90 + k) c + z) (kb_iff ⟨fun y => ⟨by omega, y.2⟩, fun y => ⟨by omega, y.2⟩⟩)
theorem P_X5_areAlike {G : Kg} {σ : Kmem} {a b W : Int} (p : σ 31 0 = W ∧ (0 ≤ W ∧ W ≤ 9) ∧ (0 ≤ a ∧ a < 6) ∧ (0 ≤ b ∧ b < 6) ∧ (∀ c, 0 ≤ c → c < W → rI (σ (90 + a) c) ∧ rI (σ (90 + b) c))) : Run G WX M_X5_areAlike 0 0 0 [vA G 82, vI a, vI b] σ (fun x s => x = kb (∀ c : Nat, c < W.toNat → σ (90 + a) c = σ (90 + b) c) ∧ s = σ) := by
  obtain ⟨hW, hW2, ha, hb, hr⟩ := p
  refine S_X5_areAlike ?_
  refine kloopP (E := fun i (u : Unit) => E_X5_areAlike_2 G a b i σ (fun x s => x = kb (∀ c : Nat, c < W.toNat → σ (90 + a) c = σ (90 + b) c) ∧ s = σ)) (fun i _ => ∀ c : Nat, c < i → σ (90 + a) c = σ (90 + b) c) W.toNat (fun i u hi hI ih => S_X5_areAlike_2 ⟨by omega, by omega, fun q => ⟨(kb_1 (fun k hk => hI k (by omega))).symm, rfl⟩, fun q => ⟨ha, by omega, hb, by omega, (hr i (by omega) (by omega)).1, (hr i (by omega) (by omega)).2, fun z => ih (by omega) () (fun k hk => ?_), fun z => ⟨(kb_0 (fun y => z (y i (by omega)))).symm, rfl⟩⟩⟩) (τ := ()) (fun k hk => absurd hk (by omega))
  by_cases e : k = i
  · rw [e]; exact z
  · exact hI k (by omega)
theorem P_X5_isStrip {G : Kg} {σ : Kmem} {k n W : Int} (hn : kArX n 21 60) (p : σ 31 0 = W ∧ (0 ≤ W ∧ W ≤ 9) ∧ (0 ≤ k ∧ k < 6) ∧ (∀ c, 0 ≤ c → c < W → rI (σ (90 + k) c) ∧ rL (σ n c))) : Run G WX M_X5_isStrip 0 0 0 [vA G 82, vI k, vA G n] σ (fun x s => x = kb (∀ c : Nat, c < W.toNat → σ (90 + k) c = σ n c) ∧ s = σ) := by
  obtain ⟨hW, hW2, ha, hr⟩ := p
  refine S_X5_isStrip hn ?_
  refine kloopP (E := fun i (u : Unit) => E_X5_isStrip_2 G k n i σ (fun x s => x = kb (∀ c : Nat, c < W.toNat → σ (90 + k) c = σ n c) ∧ s = σ)) (fun i _ => ∀ c : Nat, c < i → σ (90 + k) c = σ n c) W.toNat (fun i u hi hI ih => S_X5_isStrip_2 hn ⟨by omega, by omega, fun q => ⟨(kb_1 (fun k hk => hI k (by omega))).symm, rfl⟩, fun q => ?_⟩) (τ := ()) (fun k hk => absurd hk (by omega))
  have rr := hr i (by omega) (by omega)
  refine ⟨ha, by omega, rr.1, by omega, by have := rr.1; omega, rr.2, fun z => ih (by omega) () (fun c hc => ?_), fun z => ⟨(kb_0 (fun y => z (y i (by omega)))).symm, rfl⟩⟩
  by_cases e : c = i
  · rw [e]; exact z
  · exact hI c (by omega)
theorem P_X5_unlikeStrips {G : Kg} {σ : Kmem} {row : Int} {v : Int → Int} (p : (wf v ∧ kco σ 31 v) ∧ 0 ≤ row ∧ row < v 1) : Run G WX M_X5_unlikeStrips 5 0 0 [vA G 82, vI row] σ (fun x s => x = sStrips v row (v 2).toNat ∧ kfm stA s σ ∧ ∀ k c, sKt v k → 0 ≤ c → c < v 0 → s (90 + k) c = sStrip v k c row) := by
  obtain ⟨⟨w, kk⟩, hr⟩ := p
  have w1 := wf_h w
  refine S_X5_unlikeStrips (Run.mono (P_X5_countStrips ⟨⟨w, kk⟩, hr⟩) (fun x s e => ?_))
  obtain ⟨-, f, z⟩ := e
  have kh := kco_h (kco_kfm w kk f (fun x a b u => by omega))
  have rk : ∀ k c, sKt v k → 0 ≤ c → c < v 0 → rI (s (90 + k) c) := fun k c a m1 m2 => by
    rw [z k c a m1 m2]; have := sStrip_r (v := v) (k := k) (c := c) (r := row); omega
  have alk : ∀ (k o : Nat), (k : Int) < v 2 → (o : Int) < v 2 → ((∀ c : Nat, c < (v 0).toNat → s (90 + (k : Int)) c = s (90 + (o : Int)) c) ↔ sAlike v k o row (v 0).toNat) := by
    intro k o hk ho
    constructor
    · intro y c hcc; have := y c hcc; rw [z _ _ ⟨by omega, hk⟩ (by omega) (by omega), z _ _ ⟨by omega, ho⟩ (by omega) (by omega)] at this; exact this
    · intro y c hcc; rw [z _ _ ⟨by omega, hk⟩ (by omega) (by omega), z _ _ ⟨by omega, ho⟩ (by omega) (by omega)]; exact y c hcc
  generalize hQ : (fun (x : Int) (u : Kmem) => x = sStrips v row (v 2).toNat ∧ kfm stA u σ ∧ ∀ k c, sKt v k → 0 ≤ c → c < v 0 → u (90 + k) c = sStrip v k c row) = Q
  refine kloopC (E := fun k n => E_X5_unlikeStrips_9 G n k s Q) (p := fun k => ∀ o : Nat, (o : Int) < k → ¬ sAlike v k o row (v 0).toNat) (N := (v 2).toNat) (a0 := 0) (fun k n hk hn he h1 h0 h00 => S_X5_unlikeStrips_9 (l1 := 0) ⟨by omega, by omega, fun q => ?_, fun q => ?_⟩)
  · rw [← hQ]; exact ⟨by rw [he (by omega)]; rfl, f, z⟩
  · have lp : E_X5_unlikeStrips_26 G n k (kb (∀ o : Nat, (o : Int) < ((0 : Nat) : Int) → ¬ sAlike v k o row (v 0).toNat)) 0 s Q := by
      refine kloop (E := fun o x => E_X5_unlikeStrips_26 G n k x o s Q) (fun o' => kb (∀ o : Nat, (o : Int) < (o' : Int) → ¬ sAlike v k o row (v 0).toNat)) k (fun o ho jh => S_X5_unlikeStrips_26 (l1 := 0) ⟨by omega, by omega, fun y => ⟨kb_r _, fun y2 => h00 (by omega) ?_, fun y2 => h1 (by omega) ?_⟩, fun y => ?_⟩)
      · rw [show (o : Int) = k by omega] at y2; exact kb_f y2
      · rw [show (o : Int) = k by omega] at y2; exact kb_t y2
      · refine Run.mono (P_X5_areAlike (W := v 0) ⟨by omega, by omega, by omega, by omega, fun c m1 m2 => ⟨rk _ _ ⟨by omega, by omega⟩ m1 m2, rk _ _ ⟨by omega, by omega⟩ m1 m2⟩⟩) (fun x t e => ?_)
        rw [e.1, e.2, kb_iff (alk k o (by omega) (by omega))]
        have jh := jh (by omega)
        refine ⟨kb_r _, fun y2 => ?_, fun y2 => ?_⟩
        · rw [kb_iff (R := ∀ o_1 : Nat, (o_1 : Int) < ((o + 1 : Nat) : Int) → ¬ sAlike v k o_1 row (v 0).toNat)]
          · exact jh
          · constructor
            · intro m o2 h2
              by_cases e2 : o2 = o
              · rw [e2]; exact kb_f y2
              · exact m o2 (by omega)
            · intro m o2 h2; exact m o2 (by omega)
        · rw [kb_0 (P := ∀ o_1 : Nat, (o_1 : Int) < ((o + 1 : Nat) : Int) → ¬ sAlike v k o_1 row (v 0).toNat) (fun m => m o (by omega) (kb_t y2))] at jh
          exact jh
    rw [kb_1 (fun o ho => absurd ho (by omega))] at lp; exact lp
