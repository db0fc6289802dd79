theorem kloopR {α : Type} {E : Int → α → Prop} (I : Int → α → Prop) (lo hi : Int) (H : ∀ (x : Int) (τ : α), lo ≤ x → (x ≤ hi + 1 ∨ x = lo) → I x τ → (x ≤ hi → ∀ τ', I (x + 1) τ' → E (x + 1) τ') → E x τ) {τ : α} (h0 : I lo τ) : E lo τ := by
  have q : ∀ (m : Nat) (x : Int) (τ : α), (hi + 1 - x).toNat = m → lo ≤ x → (x ≤ hi + 1 ∨ x = lo) → I x τ → E x τ := by
    intro m
    induction m with
    | zero => intro x τ hm h1 h2 hI; exact H x τ h1 h2 hI (fun h => absurd h (by omega))
    | succ m ih => intro x τ hm h1 h2 hI; exact H x τ h1 h2 hI (fun h τ' h' => ih (x + 1) τ' (by omega) (by omega) (by omega) h')
  exact q _ lo τ rfl (by omega) (by omega) h0
theorem kabs_le {a b : Int} : kabs a ≤ b ↔ -b ≤ a ∧ a ≤ b := by unfold kabs; split <;> omega
theorem P_X8_ownerWith {G : Kg} {σ : Kmem} {c f k : Int} {v : Int → Int} (hc : isC c) (p : (wf v ∧ kco σ c v ∧ σ 58 0 = c) ∧ (0 ≤ f ∧ f < 63) ∧ sKt v k ∧ rI (σ 62 f) ∧ rI (σ 63 f) ∧ (σ 62 f ≠ 0 → v 6 ≠ 2 → 0 ≤ σ 63 f ∧ σ 63 f < v 2)) :
    Run G WX M_X8_ownerWith 0 0 0 [vA G 58, vI f, vI k] σ (fun x s => x = kif (σ 62 f = 0) k (kif (v 6 = 2) (-1) (kif (v 6 = 1 ∧ v (34 + 9 * σ 63 f + 2) < v (34 + 9 * k + 2)) k (σ 63 f))) ∧ s = σ) := by
  obtain ⟨⟨w, kk, h58⟩, hf, ⟨hk1, hk2⟩, r1, r2, ho⟩ := p
  have k1 := kco_h kk
  have w1 := wf_h w
  have kc := kk.2.2.1 k hk1 hk2
  have wc := w.2.2.1 k hk1 hk2
  refine S_X8_ownerWith hc ⟨hf, r1, fun z => ⟨hf, h58, by omega, fun h6 => ⟨?_, rfl⟩, fun h6 => ⟨r2, fun z2 => ?_, fun z2 => ?_⟩⟩, fun z => ⟨?_, rfl⟩⟩
  · rw [kif_f z, kif_t (by omega)]
  · have ho := ho z (by omega)
    have ko := kk.2.2.1 (σ 63 f) ho.1 ho.2
    have wo := w.2.2.1 (σ 63 f) ho.1 ho.2
    rw [kif_f z, kif_f (by omega)]
    refine ⟨h58, by omega, h58, by omega, by omega, by omega, fun z3 => ⟨h58, fun z4 => ⟨?_, rfl⟩, fun z4 => ⟨?_, rfl⟩⟩, fun z3 => ⟨h58, fun z4 => ⟨?_, rfl⟩, fun z4 => ⟨?_, rfl⟩⟩⟩
    · rw [kif_f (by omega)]
    · rw [kif_f (by omega)]
    · rw [kif_f (by omega)]
    · rw [kif_t (by omega)]
  · have ho := ho z (by omega); omega
  · rw [kif_t z]
abbrev sky3 (x : Int) : Prop := 62 ≤ x ∧ x ≤ 63
/-- the shade of the first i kites is cast, in the fields of d also that of kite i -/
def skI (σ : Kmem) (v : Int → Int) (q : Int → Prop) (h : Int) (i : Nat) (d : Int → Prop) : Prop := ∀ f, 0 ≤ f → f < 63 → σ 62 f = kif (d f) (sSetI v q h f (i + 1) : Int) (sSetI v q h f i : Int) ∧ σ 63 f = kif (d f) (sOwI v q h f (i + 1)) (sOwI v q h f i)
theorem skI_ext {σ : Kmem} {v : Int → Int} {q : Int → Prop} {h : Int} {i : Nat} {d e : Int → Prop} (hI : skI σ v q h i d) (hd : ∀ f, 0 ≤ f → f < 63 → ((d f ↔ e f) ∨ ¬ sOn v q h f i)) : skI σ v q h i e := by
  intro f a b
  have := hI f a b
  rcases hd f a b with z | z
  · by_cases y : d f
    · rw [kif_t y, kif_t y] at this; rw [kif_t (z.1 y), kif_t (z.1 y)]; exact this
    · rw [kif_f y, kif_f y] at this; rw [kif_f (fun u => y (z.2 u)), kif_f (fun u => y (z.2 u))]; exact this
  · have g := sI_same z
    rw [g.1, g.2] at this ⊢
    have k : ∀ {α : Type} {P : Prop} {x : α}, kif P x x = x := fun {α P x} => by by_cases y : P; exact kif_t y; exact kif_f y
    rw [k, k] at this; rw [k, k]; exact this
theorem sSetI_r {v : Int → Int} {q : Int → Prop} {h f : Int} {i : Nat} (hi : i ≤ 6) : (sSetI v q h f i : Int) < 64 := by
  have := kset_lt (p := sOn v q h f) i
  have := Nat.pow_le_pow_right (n := 2) (by decide) hi
  unfold sSetI; omega
theorem sOwI_r {v : Int → Int} {q : Int → Prop} {h f : Int} {i : Nat} : -1 ≤ sOwI v q h f i ∧ sOwI v q h f i < i := by
  have := sBest_r (v := v) (s := (sSetI v q h f i : Int)) i
  unfold sOwI sOwnN
  by_cases z : v 6 = 2 ∧ kbits (sSetI v q h f i) ≠ 1
  · rw [kif_t z]; omega
  · rw [kif_f z]; omega
theorem P_X8_castShadeOf {G : Kg} {σ : Kmem} {c h : Int} {i : Nat} {v : Int → Int} {q : Int → Prop} (hc : isC c) (p : (wf v ∧ kco σ c v ∧ skR σ c v h q) ∧ sHr h ∧ (i : Int) < v 2 ∧ (sBorne v i h ∧ ¬ q i) ∧ skI σ v q h i (fun _ => False)) :
    Run G WX M_X8_castShadeOf 1 0 0 [vA G 58, vI i] σ (fun x s => x = 0 ∧ kfm sky3 s σ ∧ skI s v q h i (fun _ => True)) := by
  obtain ⟨⟨w, kk, sk⟩, hh, hi, up, hI⟩ := p
  have k1 := kco_h kk
  have w1 := wf_h w
  obtain ⟨s0, -, s2⟩ := sk
  have s2 := s2 i (by omega) hi
  have b1 := sCol_r (k := i) w ⟨by omega, hi⟩ hh
  have b2 := sRow_r (k := i) w ⟨by omega, hi⟩ hh
  have b3 := sSz_r (k := i) (h := h) w ⟨by omega, hi⟩
  have on : ∀ f, 0 ≤ f → f < 63 → (sOn v q h f i ↔ (f % 9 < v 0 ∧ f / 9 < v 1) ∧ (sCol v i h - sSz v i h ≤ f % 9 ∧ f % 9 ≤ sCol v i h + sSz v i h) ∧ sRow v i h - sSz v i h ≤ f / 9 ∧ f / 9 ≤ sRow v i h + sSz v i h) := by
    intro f a b
    unfold sOn sFld sShd
    rw [kabs_le, kabs_le]
    constructor
    · rintro ⟨z1, z2, z3, z4, z5⟩; omega
    · intro z; exact ⟨by omega, up.2, up.1, by omega, by omega⟩
  refine S_X8_castShadeOf hc ⟨s0, by omega, by omega, by omega, s0, by omega, by omega, by omega, by omega, by omega, by omega, ?_⟩
  rw [s2.1, s2.2.1, s2.2.2, k1.1.1, k1.1.2.1]
  generalize hR : sRow v i h = R at *
  generalize hC : sCol v i h = C at *
  generalize hS : sSz v i h = S at *
  refine kloopR (E := fun r τ => E_X8_castShadeOf_71 G i (min (v 1 - 1) (R + S)) (min (v 0 - 1) (C + S)) r τ (fun x s => x = 0 ∧ kfm sky3 s σ ∧ skI s v q h i (fun _ => True))) (fun r τ => kfm sky3 τ σ ∧ skI τ v q h i (fun f => f / 9 < r)) (max 0 (R - S)) (min (v 1 - 1) (R + S)) (fun r τ h1 h2 hJ ih => S_X8_castShadeOf_71 hc ?_) ⟨kfm.refl, skI_ext hI (fun f a b => ?_)⟩
  · obtain ⟨f1, j1⟩ := hJ
    have t0 : τ 59 = σ 59 := f1 59 (fun z => by have := z.1; omega)
    have t1 : τ 61 = σ 61 := f1 61 (fun z => by have := z.1; omega)
    refine ⟨by omega, by omega, fun z => ⟨rfl, f1, skI_ext j1 (fun f a b => ?_)⟩, fun z => ⟨by omega, by omega, by rw [t0, t1, s2.1, s2.2.2]; omega, ?_⟩⟩
    · by_cases y : f / 9 < r
      · exact Or.inl ⟨fun _ => trivial, fun _ => y⟩
      · exact Or.inr (fun u => by have := (on f a b).1 u; omega)
    · rw [t0, t1, s2.1, s2.2.2]
      refine kloopR (E := fun cc τ => E_X8_castShadeOf_96 G i (min (v 1 - 1) (R + S)) (min (v 0 - 1) (C + S)) r cc τ (fun x s => x = 0 ∧ kfm sky3 s σ ∧ skI s v q h i (fun _ => True))) (fun cc τ => kfm sky3 τ σ ∧ skI τ v q h i (fun f => f / 9 < r ∨ f / 9 = r ∧ f % 9 < cc)) (max 0 (C - S)) (min (v 0 - 1) (C + S)) (fun cc τ g1 g2 hJ jh => S_X8_castShadeOf_96 hc ?_) ⟨f1, skI_ext j1 (fun f a b => ?_)⟩
      · obtain ⟨f2, j2⟩ := hJ
        refine ⟨by omega, by omega, fun y => ih z τ ⟨f2, skI_ext j2 (fun f a b => ?_)⟩, fun y => ?_⟩
        · by_cases y2 : f / 9 = r ∧ cc ≤ f % 9
          · exact Or.inr (fun u => by have := (on f a b).1 u; omega)
          · exact Or.inl (by omega)
        · have ff : (r * 9 + cc) / 9 = r ∧ (r * 9 + cc) % 9 = cc := by omega
          have jf := j2 (r * 9 + cc) (by omega) (by omega)
          rw [kif_f (by omega), kif_f (by omega)] at jf
          have onf : sOn v q h (r * 9 + cc) i := (on _ (by omega) (by omega)).2 (by omega)
          have nw := sI_new (by omega) onf
          have r1 := sSetI_r (v := v) (q := q) (h := h) (f := r * 9 + cc) (i := i) (by omega)
          have r2 := sOwI_r (v := v) (q := q) (h := h) (f := r * 9 + cc) (i := i)
          have kt := kco_kfm w kk f2 (fun x a b u => by have := isC_r hc; have := u.1; have := u.2; omega)
          have t58 : τ 58 = σ 58 := f2 58 (fun z => by have := z.1; omega)
          refine Run.mono (P_X8_ownerWith (v := v) hc ⟨⟨w, kt, by rw [t58]; exact s0⟩, by omega, ⟨by omega, hi⟩, by omega, by omega, fun u1 u2 => ?_⟩) (fun x s u => ?_)
          · have := nw.2.2 (by omega) u2; omega
          · obtain ⟨rfl, rfl⟩ := u
            refine ⟨by omega, by omega, by omega, jh y _ ⟨(kfm_kup ⟨by omega, by omega⟩).trans ((kfm_kup ⟨by omega, by omega⟩).trans f2), fun f a b => ?_⟩⟩
            by_cases e : f = r * 9 + cc
            · subst e
              dsimp only
              have dn : (r * 9 + cc) / 9 < r ∨ (r * 9 + cc) / 9 = r ∧ (r * 9 + cc) % 9 < cc + 1 := Or.inr (by omega)
              rw [kif_t dn, kif_t dn, kup_at, kup_x (by omega), kup_x (by omega), kup_at, nw.1, nw.2.1, jf.1, jf.2]
              refine ⟨rfl, ?_⟩
              by_cases z0 : sSetI v q h (r * 9 + cc) i = 0
              · rw [kif_t z0, kif_t (by omega)]
              · rw [kif_f z0, kif_f (by omega)]
            · have jj := j2 f a b
              rw [kup_j e, kup_x (by omega), kup_x (by omega), kup_j e]
              by_cases d : f / 9 < r ∨ f / 9 = r ∧ f % 9 < cc
              · rw [kif_t d, kif_t d] at jj; rw [kif_t (by omega), kif_t (by omega)]; exact jj
              · rw [kif_f d, kif_f d] at jj; rw [kif_f (by omega), kif_f (by omega)]; exact jj
      · by_cases y : f / 9 = r ∧ f % 9 < max 0 (C - S)
        · exact Or.inr (fun u => by have := (on f a b).1 u; omega)
        · exact Or.inl (by omega)
  · by_cases y : f / 9 < max 0 (R - S)
    · exact Or.inr (fun u => by have := (on f a b).1 u; omega)
    · exact Or.inl ⟨fun u => u.elim, fun u => absurd u y⟩
