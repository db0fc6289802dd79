/-! living seasons: the reference -/
def sTick (τ : Kmem) : Kmem := kup τ 0 36 (τ 0 36 + 1)
noncomputable def sMis (τ : Kmem) (k : Int) : Kmem := kup (sDo τ k).2 19 0 (τ 19 0 + kb ((sDo τ k).1 = 0))
noncomputable def sAft (τ : Kmem) (k : Int) : Kmem := kif (((sMis τ k 1) (150 + 6 * k)) = 21) (kup (sMis τ k) 18 k (sMis τ k 1 (150 + 6 * k + 1) - 1)) (sMis τ k)
noncomputable def sNxt (v : Int → Int) (k : Int) : Int := kif (2000 ≤ (v (150 + 6 * k)) ∧ ¬ sHolds v k) ((v (150 + 6 * k + 4)) + 1) (k + 1)
noncomputable def sAll (τ : Kmem) (k : Int) : Int × (Int → Int) := sEnds (sAft τ k 1) 200 (sNxt (sAft τ k 1) k, sAft τ k 18)
noncomputable def sRun : Nat → Int → Kmem → Kmem
  | 0, k, τ => kif (τ 1 8 ≤ k) τ (kup τ 19 4 1)
  | n + 1, k, τ => kif (τ 1 8 ≤ k) τ (kif (((τ 1) (150 + 6 * k)) = 23) (sTick τ) (sRun n (sAll (sTick τ) k).1 (kst (sAft (sTick τ) k) 18 (sAll (sTick τ) k).2)))
def sBeg (σ : Kmem) (seed : Int) : Kmem := kst (kup (kup σ 0 35 seed) 0 36 0) 19 (fun i => if 0 ≤ i ∧ i < 5 then 0 else σ 19 i)
/-- what stays as one lives -/
def sLF (s t : Kmem) : Prop := (∀ x, x ≠ 0 → x ≠ 1 → x ≠ 18 → x ≠ 19 → s x = t x) ∧ (∀ j, j ≠ 35 → j ≠ 36 → s 0 j = t 0 j) ∧ kfar (s 1) (t 1) ∧ pEq (s 1) (t 1)
theorem sLF.refl {s : Kmem} : sLF s s := ⟨fun _ _ _ _ _ => rfl, fun _ _ _ => rfl, kfar.refl, pEq.refl⟩
theorem sLF.trans {s t u : Kmem} (h : sLF s t) (g : sLF t u) : sLF s u := ⟨fun x a b c d => (h.1 x a b c d).trans (g.1 x a b c d), fun j a b => (h.2.1 j a b).trans (g.2.1 j a b), h.2.2.1.trans g.2.2.1, h.2.2.2.trans g.2.2.2⟩
theorem sLF_19 {s : Kmem} {j y : Int} : sLF (kup s 19 j y) s := by
  have e : (kup s 19 j y) 1 = s 1 := by funext k; exact kup_x (by omega)
  exact ⟨fun x a b c d => by funext k; exact kup_x d, fun j a b => kup_x (by omega), by rw [e]; exact kfar.refl, by rw [e]; exact pEq.refl⟩
theorem sLF_18 {s : Kmem} {f : Int → Int} : sLF (kst s 18 f) s :=
  ⟨fun x a b c d => kst_ne c, fun j a b => by rw [kst_ne (by omega)], by rw [kst_ne (by omega)]; exact kfar.refl, by rw [kst_ne (by omega)]; exact pEq.refl⟩
theorem sLF_0 {s : Kmem} {j y : Int} (h : j = 35 ∨ j = 36) : sLF (kup s 0 j y) s := by
  have e : (kup s 0 j y) 1 = s 1 := by funext k; exact kup_x (by omega)
  exact ⟨fun x a b c d => by funext k; exact kup_x a, fun i a b => kup_j (by omega), by rw [e]; exact kfar.refl, by rw [e]; exact pEq.refl⟩
theorem sLF_1 {s : Kmem} {u : Int → Int} (h : kfar u (s 1)) (g : ∀ j, 0 ≤ j → j < 34 → j ≠ 7 → u j = s 1 j) : sLF (kst s 1 u) s :=
  ⟨fun x a b c d => kst_ne b, fun j a b => by rw [kst_ne (by omega)], by rw [kst_eq]; exact h, by rw [kst_eq]; exact pEq_far h g⟩
/-- a state as it may be -/
def sLv (τ : Kmem) (k : Int) : Prop := (wf (τ 1) ∧ pwf (τ 1) ∧ τ 1 7 ≤ 9999) ∧ (0 ≤ k ∧ k ≤ τ 1 8) ∧ ¬ pEd (τ 1) k ∧ (0 ≤ τ 0 35 ∧ τ 0 35 ≤ 65535) ∧ lpR (τ 18)
theorem kup_o {s : Kmem} {a j y : Int} {x : Int} (h : x ≠ a) : (kup s a j y) x = s x := by funext k; exact kup_x h
theorem sDo_ok {τ : Kmem} {k : Int} (h : sLv τ k) (hk : k < τ 1 8) : (wf ((sDo τ k).2 1) ∧ (sDo τ k).2 1 7 ≤ 9999) ∧ sLF (sDo τ k).2 τ ∧ ((sDo τ k).2 18 = τ 18 ∧ (sDo τ k).2 19 0 = τ 19 0 ∧ (sDo τ k).2 0 36 = τ 0 36) ∧ (0 ≤ (sDo τ k).2 0 35 ∧ (sDo τ k).2 0 35 ≤ 65535) ∧ ((sDo τ k).1 = 0 ∨ (sDo τ k).1 = 1) ∧ (sDo τ k).2 19 4 = τ 19 4 := by
  obtain ⟨⟨w, pw, h7⟩, hk0, nd, hd, hl⟩ := h
  have w1 := wf_h w
  have ln := pw.2.1 k hk0.1 hk
  obtain ⟨l1, l2, l3, l4, l5, l6, l7, l8, l9⟩ := ln
  have walk : ∀ (t : Kmem) (s : Int), t 1 = τ 1 → t 18 = τ 18 → t 19 = τ 19 → sLF t τ → t 0 36 = τ 0 36 → (0 ≤ t 0 35 ∧ t 0 35 ≤ 65535) → sKt (τ 1) (τ 1 (150 + 6 * k + 1)) → sMay (τ 1) (τ 1 (150 + 6 * k + 1)) s →
      ∀ y, (wf ((kup (kst t 1 (sWalk (τ 1) (τ 1 (150 + 6 * k + 1)) s)) 19 2 y) 1) ∧ (kup (kst t 1 (sWalk (τ 1) (τ 1 (150 + 6 * k + 1)) s)) 19 2 y) 1 7 ≤ 9999) ∧ sLF (kup (kst t 1 (sWalk (τ 1) (τ 1 (150 + 6 * k + 1)) s)) 19 2 y) τ ∧ ((kup (kst t 1 (sWalk (τ 1) (τ 1 (150 + 6 * k + 1)) s)) 19 2 y) 18 = τ 18 ∧ (kup (kst t 1 (sWalk (τ 1) (τ 1 (150 + 6 * k + 1)) s)) 19 2 y) 19 0 = τ 19 0 ∧ (kup (kst t 1 (sWalk (τ 1) (τ 1 (150 + 6 * k + 1)) s)) 19 2 y) 0 36 = τ 0 36) ∧ (0 ≤ (kup (kst t 1 (sWalk (τ 1) (τ 1 (150 + 6 * k + 1)) s)) 19 2 y) 0 35 ∧ (kup (kst t 1 (sWalk (τ 1) (τ 1 (150 + 6 * k + 1)) s)) 19 2 y) 0 35 ≤ 65535) ∧ (kup (kst t 1 (sWalk (τ 1) (τ 1 (150 + 6 * k + 1)) s)) 19 2 y) 19 4 = τ 19 4 := by
    intro t s t1 t18 t19 ft t36 t35 hkt hm y
    have ok := sWalk_ok w hkt hm
    have q1 : (kup (kst t 1 (sWalk (τ 1) (τ 1 (150 + 6 * k + 1)) s)) 19 2 y) 1 = sWalk (τ 1) (τ 1 (150 + 6 * k + 1)) s := by rw [kup_o (by omega), kst_eq]
    refine ⟨⟨by rw [q1]; exact ok.1, by rw [q1, ok.2.1 7 (by omega) (by omega)]; exact h7⟩, sLF_19.trans ((sLF_1 (by rw [t1]; exact ok.2.2) (fun j a b _ => by rw [t1]; exact ok.2.1 j a b)).trans ft), ⟨?_, ?_, ?_⟩, ?_, ?_⟩
    · rw [kup_o (by omega), kst_ne (by omega), t18]
    · rw [kup_j (by omega), kst_ne (by omega), t19]
    · rw [kup_x (by omega), kst_ne (by omega), t36]
    · rw [kup_x (by omega), kst_ne (by omega)]; exact t35
    · rw [kup_j (by omega), kst_ne (by omega), t19]
  have same : ∀ (b : Int) (t : Kmem), t = τ → (b = 0 ∨ b = 1) → (wf (t 1) ∧ t 1 7 ≤ 9999) ∧ sLF t τ ∧ (t 18 = τ 18 ∧ t 19 0 = τ 19 0 ∧ t 0 36 = τ 0 36) ∧ (0 ≤ t 0 35 ∧ t 0 35 ≤ 65535) ∧ (b = 0 ∨ b = 1) ∧ t 19 4 = τ 19 4 := by
    rintro b t rfl hb; exact ⟨⟨w, h7⟩, sLF.refl, ⟨rfl, rfl, rfl⟩, hd, hb, rfl⟩
  have cut : ∀ x : Int, (x = 0 ∨ x = 1) → sKt (τ 1) (τ 1 (150 + 6 * k + 1)) → (wf ((kst τ 1 (ku (τ 1) (34 + 9 * τ 1 (150 + 6 * k + 1) + 8) x)) 1) ∧ (kst τ 1 (ku (τ 1) (34 + 9 * τ 1 (150 + 6 * k + 1) + 8) x)) 1 7 ≤ 9999) ∧ sLF (kst τ 1 (ku (τ 1) (34 + 9 * τ 1 (150 + 6 * k + 1) + 8) x)) τ := by
    intro x hx hkt
    have k1 := hkt.1
    have k2 := hkt.2
    rw [kst_eq]
    exact ⟨⟨wf_cut w hkt hx, by rw [ku_ne (by omega)]; exact h7⟩, sLF_1 (kfar_ku (by omega)) (fun j a b _ => ku_ne (by omega))⟩
  unfold sDo
  by_cases e15 : ((τ 1) (150 + 6 * k)) = 15
  · rw [kif_t e15]
    by_cases q : τ 1 7 + τ 1 (150 + 6 * k + 1) ≤ 9999
    · have l2 := l2 e15
      have ok := sHours_ok w (τ 1 (150 + 6 * k + 1)).toNat (by omega)
      dsimp only
      rw [kif_t q, kup_o (by omega), kup_o (by omega), kst_eq]
      refine ⟨⟨ok.1, by rw [ok.2.2.1]; omega⟩, sLF_19.trans (sLF_19.trans (sLF_1 ok.2.2.2 ok.2.1)), ⟨?_, ?_, ?_⟩, ?_, kb_01 _, ?_⟩
      · rw [kup_o (by omega), kup_o (by omega), kst_ne (by omega)]
      · rw [kup_j (by omega), kup_j (by omega), kst_ne (by omega)]
      · rw [kup_x (by omega), kup_x (by omega), kst_ne (by omega)]
      · rw [kup_x (by omega), kup_x (by omega), kst_ne (by omega)]; exact hd
      · rw [kup_j (by omega), kup_j (by omega), kst_ne (by omega)]
    · dsimp only
      rw [kif_f q]
      exact same _ τ rfl (kb_01 _)
  · rw [kif_f e15]
    by_cases e16 : ((τ 1) (150 + 6 * k)) = 16
    · rw [kif_t e16]
      dsimp only
      by_cases q : sMay (τ 1) (τ 1 (150 + 6 * k + 1)) (τ 1 (150 + 6 * k + 2))
      · rw [kif_t q]
        have := walk τ (τ 1 (150 + 6 * k + 2)) rfl rfl rfl sLF.refl rfl hd (l3 (by omega)) q (τ 19 2 + 1)
        exact ⟨this.1, this.2.1, this.2.2.1, this.2.2.2.1, kb_01 _, this.2.2.2.2⟩
      · rw [kif_f q]; exact same _ τ rfl (kb_01 _)
    · rw [kif_f e16]
      by_cases e17 : ((τ 1) (150 + 6 * k)) = 17
      · rw [kif_t e17]
        have := cut 1 (by omega) (l3 (by omega))
        dsimp only
        refine ⟨this.1, this.2, ⟨?_, ?_, ?_⟩, ?_, kb_01 _, ?_⟩
        · rw [kst_ne (by omega)]
        · rw [kst_ne (by omega)]
        · rw [kst_ne (by omega)]
        · rw [kst_ne (by omega)]; exact hd
        · rw [kst_ne (by omega)]
      · rw [kif_f e17]
        by_cases e18 : ((τ 1) (150 + 6 * k)) = 18
        · rw [kif_t e18]
          have := cut 0 (by omega) (l3 (by omega))
          dsimp only
          refine ⟨this.1, this.2, ⟨?_, ?_, ?_⟩, ?_, kb_01 _, ?_⟩
          · rw [kst_ne (by omega)]
          · rw [kst_ne (by omega)]
          · rw [kst_ne (by omega)]
          · rw [kst_ne (by omega)]; exact hd
          · rw [kst_ne (by omega)]
        · rw [kif_f e18]
          by_cases e19 : ((τ 1) (150 + 6 * k)) = 19
          · rw [kif_t e19]
            dsimp only
            have dr : 0 ≤ dr1 (τ 0 35) ∧ dr1 (τ 0 35) ≤ 65535 := by
              have : 0 ≤ (τ 0 35 * 3001 + 11197) % 65536 ∧ (τ 0 35 * 3001 + 11197) % 65536 ≤ 65535 := by omega
              exact this
            by_cases q : sMay (τ 1) (τ 1 (150 + 6 * k + 1)) (dr1 (τ 0 35) / 8 % 4 + 1)
            · rw [kif_t q]
              have := walk (kup τ 0 35 (dr1 (τ 0 35))) (dr1 (τ 0 35) / 8 % 4 + 1) (kup_o (by omega)) (kup_o (by omega)) (kup_o (by omega)) (sLF_0 (Or.inl rfl)) (kup_j (by omega)) (by rw [kup_at]; exact dr) (l3 (by omega)) q (τ 19 2 + 1)
              exact ⟨this.1, this.2.1, this.2.2.1, this.2.2.2.1, kb_01 _, this.2.2.2.2⟩
            · rw [kif_f q, kup_o (x := 1) (by omega), kup_o (x := 18) (by omega), kup_x (by omega), kup_j (by omega), kup_at, kup_x (by omega)]
              exact ⟨⟨w, h7⟩, sLF_0 (Or.inl rfl), ⟨rfl, rfl, rfl⟩, dr, kb_01 _, rfl⟩
          · rw [kif_f e19]
            exact same 1 τ rfl (Or.inr rfl)
theorem sNxt_ok {v : Int → Int} {k : Int} (p : pwf v) (h : 0 ≤ k ∧ k < v 8) : 0 ≤ sNxt v k ∧ sNxt v k ≤ v 8 := by
  have ln := p.2.1 k h.1 h.2
  unfold sNxt
  by_cases q : 2000 ≤ (v (150 + 6 * k)) ∧ ¬ sHolds v k
  · rw [kif_t q]
    have := ln.2.2.2.2.2.2.2.1 (Or.inr (by have := ln.1; omega))
    omega
  · rw [kif_f q]; omega
/-- one line further -/
theorem sAft_ok {τ : Kmem} {k : Int} (h : sLv τ k) (hk : k < τ 1 8) : (wf (sAft τ k 1) ∧ pwf (sAft τ k 1) ∧ sAft τ k 1 7 ≤ 9999) ∧ sLF (sAft τ k) τ ∧ (0 ≤ sAft τ k 0 35 ∧ sAft τ k 0 35 ≤ 65535) ∧ lpR (sAft τ k 18) ∧ sAft τ k 0 36 = τ 0 36 ∧ sAft τ k 1 = (sDo τ k).2 1 ∧ sAft τ k 19 4 = τ 19 4 := by
  have ok := sDo_ok h hk
  obtain ⟨⟨w, pw, h7⟩, hk0, nd, hd, hl⟩ := h
  have m1 : sMis τ k 1 = (sDo τ k).2 1 := kup_o (by omega)
  have fm : sLF (sMis τ k) τ := sLF_19.trans ok.2.1
  have pd := pwf_eq ok.2.1.2.2.2 pw
  have e8 : (sDo τ k).2 1 8 = τ 1 8 := ok.2.1.2.2.2.1.1
  have m18 : sMis τ k 18 = τ 18 := (kup_o (by omega)).trans ok.2.2.1.1
  have m36 : sMis τ k 0 36 = τ 0 36 := (kup_x (by omega)).trans ok.2.2.1.2.2
  have m35 : sMis τ k 0 35 = (sDo τ k).2 0 35 := kup_x (by omega)
  have m4 : sMis τ k 19 4 = τ 19 4 := (kup_j (by omega)).trans ok.2.2.2.2.2
  unfold sAft
  by_cases q : ((sMis τ k 1) (150 + 6 * k)) = 21
  · rw [kif_t q, kup_o (by omega), m1, kup_x (by omega), m35, kup_x (by omega), m36, kup_x (by omega), m4]
    have ln := (pd.2.1 k hk0.1 (by rw [e8]; exact hk)).2.2.2.2.2.2.1 (by rw [← m1]; exact q)
    refine ⟨⟨ok.1.1, pd, ok.1.2⟩, ?_, ok.2.2.2.1, fun o a b => ?_, rfl, rfl, rfl⟩
    · rw [kup_k]; exact sLF_18.trans fm
    · rw [kup_k, kst_eq]
      by_cases e : o = k
      · rw [e, ku_eq]; omega
      · rw [ku_ne e, m18]; exact hl o a b
  · rw [kif_f q, m1, m35, m36, m18, m4]
    exact ⟨⟨ok.1.1, pd, ok.1.2⟩, fm, ok.2.2.2.1, hl, rfl, rfl, rfl⟩
theorem sAll_ok {τ : Kmem} {k : Int} (h : sLv τ k) (hk : k < τ 1 8) : sLv (kst (sAft τ k) 18 (sAll τ k).2) (sAll τ k).1 := by
  have ok := sAft_ok h hk
  have e8 : sAft τ k 1 8 = τ 1 8 := ok.2.1.2.2.2.1.1
  have nx := sNxt_ok ok.1.2.1 ⟨h.2.1.1, by rw [e8]; exact hk⟩
  have mu := sMu_r (a := (sNxt (sAft τ k 1) k, sAft τ k 18)) ok.1.2.1 nx.1 ok.2.2.2.1
  have en := sEnds_ok ok.1.2.1 200 (sNxt (sAft τ k 1) k, sAft τ k 18) (by omega) nx ok.2.2.2.1
  unfold sLv
  rw [kst_ne (by omega), kst_ne (by omega), kst_eq]
  exact ⟨ok.1, en.1, en.2.2.1, ok.2.2.1, en.2.1⟩
theorem sTick_lv {τ : Kmem} {k : Int} (h : sLv τ k) : sLv (sTick τ) k := by
  unfold sLv sTick at *
  rw [kup_o (x := 1) (by omega), kup_o (x := 18) (by omega), kup_j (by omega)]
  exact h
theorem lives_loop {G : Kg} {Q : Int → Kmem → Prop} : ∀ (n : Nat) (k : Int) (τ : Kmem), sLv τ k → τ 0 36 = 300 - n → n ≤ 300 → Q 0 (sRun n k τ) → E_X12_lives_32 G k τ Q := by
  intro n
  induction n with
  | zero =>
    intro k τ h h36 _ hQ
    have p8 := h.1.2.1.1
    refine S_X12_lives_32 (l1 := 0) ⟨by have := h.2.1; omega, by omega, fun q => ?_, fun q => ⟨by omega, fun n => absurd h36 n, fun _ m hm => ?_⟩⟩
    · have : sRun 0 k τ = τ := kif_t q
      rw [this] at hQ; exact hQ
    · have : sRun 0 k τ = kup τ 19 4 1 := kif_f (by omega)
      rw [hm, ← this]; exact hQ
  | succ n ih =>
    intro k τ h h36 hn hQ
    have p8 := h.1.2.1.1
    have h0 := h.2.1
    refine S_X12_lives_32 (l1 := 0) ⟨by omega, by omega, fun q => ?_, fun q => ⟨by omega, fun _ m12 e12 => ?_, fun e => by omega⟩⟩
    · have : sRun (n + 1) k τ = τ := kif_t q
      rw [this] at hQ; exact hQ
    have e12' : m12 = sTick τ := e12
    rw [e12']
    have ht := sTick_lv h
    have t1 : sTick τ 1 = τ 1 := kup_o (by omega)
    have t36 : sTick τ 0 36 = 300 - n := by
      have : sTick τ 0 36 = τ 0 36 + 1 := kup_at
      omega
    have ln := h.1.2.1.2.1 k h0.1 q
    have qt : k < sTick τ 1 8 := by rw [t1]; exact q
    have e : sRun (n + 1) k τ = kif (((τ 1) (150 + 6 * k)) = 23) (sTick τ) (sRun n (sAll (sTick τ) k).1 (kst (sAft (sTick τ) k) 18 (sAll (sTick τ) k).2)) := kif_f (by omega)
    rw [e] at hQ
    have e13 : m12 1 (150 + 6 * k) = τ 1 (150 + 6 * k) := by rw [e12', t1]
    have rI0 : rI (sTick τ 1 (150 + 6 * k)) := by rw [t1]; have := ln.1; omega
    refine ⟨by omega, rI0, fun n23 => ?_, fun e23 => ?_⟩
    rotate_left
    · rw [t1] at e23
      rw [kif_t e23] at hQ; exact hQ
    rw [t1] at n23
    rw [kif_f n23] at hQ
    have nx := ih (sAll (sTick τ) k).1 (kst (sAft (sTick τ) k) 18 (sAll (sTick τ) k).2) (sAll_ok ht qt) (by rw [kst_ne (by omega), (sAft_ok ht qt).2.2.2.2.1]; exact t36) (by omega) hQ
    have ok := sDo_ok ht qt
    have oka := sAft_ok ht qt
    have okn := sNxt_ok oka.1.2.1 ⟨h0.1, by rw [oka.2.1.2.2.2.1.1]; exact qt⟩
    -- behind the line
    have aft : E_X12_lives_141 G k (150 + 6 * k) (sAft (sTick τ) k) Q := by
      have a1 : ((sAft (sTick τ) k 1) (150 + 6 * k)) = ((τ 1) (150 + 6 * k)) := by rw [oka.2.1.2.2.2.2 _ (by omega) (by omega), t1]
      have a8 : sAft (sTick τ) k 1 8 = τ 1 8 := by rw [oka.2.1.2.2.2.1.1, t1]
      have go : ∀ x, x = sNxt (sAft (sTick τ) k 1) k → (pwf (sAft (sTick τ) k 1) ∧ ((0 : Int) ≤ x ∧ (x : Int) ≤ (sAft (sTick τ) k 1) 8) ∧ lpR (sAft (sTick τ) k 18)) ∧ E_X12_lives_32 G (sEnds (sAft (sTick τ) k 1) 200 (x, sAft (sTick τ) k 18)).1 (kst (sAft (sTick τ) k) 18 (sEnds (sAft (sTick τ) k 1) 200 (x, sAft (sTick τ) k 18)).2) Q := by
        rintro x rfl
        exact ⟨⟨oka.1.2.1, okn, oka.2.2.2.1⟩, nx⟩
      refine S_X12_lives_141 (l1 := 0) ⟨by omega, by rw [a1]; have := ln.1; omega, fun lt => go _ ?_, fun ge => Run.mono (P_X12_holds ⟨oka.1.1, oka.1.2.1, ⟨h0.1, by rw [a8]; exact q⟩, by rw [a1] at ge ⊢; have := ln.1; omega⟩) (fun x s z => ?_)⟩
      · exact (kif_f (fun y => by have := y.1; omega)).symm
      · rw [z.1, z.2]
        refine ⟨kb_r _, fun y => go _ ?_, fun y => ⟨by omega, go _ ?_⟩⟩
        · exact (kif_f (fun yy => yy.2 (kb_t y))).symm
        · exact (kif_t ⟨ge, kb_f y⟩).symm
    refine Run.mono (P_X12_does ⟨ht.1.1, by have := ht.1.2.2; omega, ht.1.2.1, ⟨h0.1, qt⟩, ht.2.2.2.1⟩) (fun x s z => ?_)
    rw [z.1, z.2]
    have mis : ∀ y : Int, y = sTick τ 19 0 + kb ((sDo (sTick τ) k).1 = 0) → ∀ m19 : Kmem, m19 = kup (sDo (sTick τ) k).2 19 0 y → (0 ≤ 150 + 6 * k ∧ 150 + 6 * k < 3598) ∧ rI (m19 1 (150 + 6 * k)) ∧ (m19 1 (150 + 6 * k) ≠ 21 → E_X12_lives_141 G k (150 + 6 * k) m19 Q) ∧ (m19 1 (150 + 6 * k) = 21 → (0 ≤ 150 + 6 * k + 1 ∧ 150 + 6 * k + 1 < 3598) ∧ (0 ≤ k ∧ k < 80) ∧ ∀ m25 : Kmem, m25 = kup m19 18 k (m19 1 (150 + 6 * k + 1) - 1) → E_X12_lives_141 G k (150 + 6 * k) m25 Q) := by
      intro y hy m19 h19
      have em : m19 = sMis (sTick τ) k := by rw [h19, hy]; rfl
      have m1 : m19 1 = (sDo (sTick τ) k).2 1 := by rw [h19]; exact kup_o (by omega)
      refine ⟨by omega, ?_, fun n21 => ?_, fun e21 => ⟨by omega, by omega, fun m25 h25 => ?_⟩⟩
      · rw [m1, ok.2.1.2.2.2.2 _ (by omega) (by omega), t1]; have := ln.1; omega
      · have : sAft (sTick τ) k = m19 := by
          rw [em] at n21 ⊢; exact kif_f n21
        rw [← this]; exact aft
      · have : sAft (sTick τ) k = m25 := by
          rw [h25]; rw [em] at e21 ⊢; exact kif_t e21
        rw [← this]; exact aft
    refine ⟨by rcases ok.2.2.2.2.1 with z | z <;> rw [z] <;> decide, fun e0 => mis _ ?_, fun n0 => mis _ ?_⟩
    · rw [kb_1 e0]
    · rw [kb_0 n0]
theorem sBeg_lv {σ : Kmem} {seed : Int} (p : (wf (σ 1) ∧ pwf (σ 1) ∧ σ 1 7 ≤ 9999) ∧ 0 ≤ σ 1 8 ∧ (0 ≤ seed ∧ seed ≤ 65535) ∧ lpR (σ 18)) : sLv (sBeg σ seed) 0 ∧ sBeg σ seed 1 = σ 1 ∧ sBeg σ seed 0 36 = 0 := by
  obtain ⟨h1, h8, hs, hl⟩ := p
  have e1 : sBeg σ seed 1 = σ 1 := by unfold sBeg; rw [kst_ne (by omega), kup_o (by omega), kup_o (by omega)]
  have e18 : sBeg σ seed 18 = σ 18 := by unfold sBeg; rw [kst_ne (by omega), kup_o (by omega), kup_o (by omega)]
  have e35 : sBeg σ seed 0 35 = seed := by unfold sBeg; rw [kst_ne (by omega), kup_j (by omega), kup_at]
  have e36 : sBeg σ seed 0 36 = 0 := by unfold sBeg; rw [kst_ne (by omega), kup_at]
  unfold sLv
  rw [e1, e18, e35]
  refine ⟨⟨h1, ⟨by omega, h8⟩, ?_, hs, hl⟩, rfl, e36⟩
  rintro ⟨d1, d2⟩
  have := (h1.2.1.2.1 0 (by omega) d1).2.2.2.2.2.2.2.2 d2
  omega
theorem P_X12_lives {G : Kg} {σ : Kmem} {seed : Int} (p : (wf (σ 1) ∧ pwf (σ 1) ∧ σ 1 7 ≤ 9999) ∧ 0 ≤ σ 1 8 ∧ (0 ≤ seed ∧ seed ≤ 65535) ∧ lpR (σ 18)) : Run G WM M_X12_lives 11 0 0 [vA G 0, vI seed] σ (fun x s => x = 0 ∧ s = sRun 300 0 (sBeg σ seed)) := by
  have bg := sBeg_lv p
  refine S_X12_lives (fun m1 e1 m3 e3 => ?_)
  generalize hQ : (fun (x : Int) (s : Kmem) => x = 0 ∧ s = sRun 300 0 (sBeg σ seed)) = Q
  refine kloopP (E := fun i τ => E_X12_lives_12 G i τ Q) (fun i τ => τ = kst m3 19 (fun j => if 0 ≤ j ∧ j < (i : Int) then 0 else m3 19 j)) 5 (fun i τ hi hI ih => S_X12_lives_12 (l1 := 0) ⟨by omega, fun q => ?_, fun q => ⟨by omega, fun m7 e7 => ih (by omega) m7 ?_⟩⟩) ?_
  · have e5 : i = 5 := by omega
    subst e5
    have eb : τ = sBeg σ seed := by
      have m19 : m3 19 = σ 19 := by rw [e3, e1, kup_o (by omega), kup_o (by omega)]
      rw [hI, m19, e3, e1]; rfl
    rw [eb]
    refine lives_loop 300 0 _ bg.1 (by rw [bg.2.2]; rfl) (by omega) ?_
    rw [← hQ]; exact ⟨rfl, rfl⟩
  · rw [e7, hI, kup_st]
    congr 1
    funext j
    unfold ku
    dsimp only
    by_cases e : j = i
    · rw [if_pos e, if_pos (by omega)]
    · rw [if_neg e]
      by_cases y : 0 ≤ j ∧ j < (i : Int)
      · rw [if_pos y, if_pos (by omega)]
      · rw [if_neg y, if_neg (by omega)]
  · have : (fun j => if 0 ≤ j ∧ j < ((0 : Nat) : Int) then 0 else m3 19 j) = m3 19 := by
      funext j; exact if_neg (by omega)
    rw [this, kst_id]
