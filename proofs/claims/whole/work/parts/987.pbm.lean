/-! CountyReader: kites -/
theorem cThen_as {r : Prop × Kmem} {f g : Kmem → Prop × Kmem} : cThen (cThen r f) g = cThen r (fun u => cThen (f u) g) := by
  by_cases e : r.1
  · rw [cThen_t e, cThen_t e]
  · rw [cThen_f e, cThen_f e, cThen_f (fun z => z)]
def rP (q p : Int) : Prop := (q = 1 ∧ p = 0) ∨ (q = 2 ∧ p = 1) ∨ (q = 3 ∧ p = 2) ∨ (q = 4 ∧ p = 3) ∨ (q = 5 ∧ p = 4) ∨ (q = 6 ∧ p = 7) ∨ (q = 7 ∧ p = 5) ∨ (q = 8 ∧ p = 6) ∨ (q = 9 ∧ p = 8)
theorem rP_i {q p q' p' : Int} (h : rP q p) (g : rP q' p') : (q' = q ↔ p' = p) ∧ (1 ≤ q ∧ q ≤ 9) ∧ 0 ≤ p ∧ p ≤ 8 := by unfold rP at *; omega
def kF (σ : Kmem) (n : Int) (s : Kmem) : Prop := ∀ x, x ≠ 3 → x ≠ 57 → x ≠ 31 → x ≠ 31 + 6 + n → s x = σ x
def kK (σ u : Kmem) (n nm : Int) (s w : Kmem) : Prop := (tRs s w ∧ tk1 w) ∧ (kF σ n s ∧ (s 57 2 = σ 57 2 ∧ s 57 3 = σ 57 3) ∧ (∀ j, j ≠ 5 → s 31 j = σ 31 j) ∧ s 31 5 = n + 1) ∧ (s (31 + 6 + n) 0 = nm ∧ ∀ q p, rP q p → s (31 + 6 + n) q = vN w (34 + 9 * n + p)) ∧ (∀ j, j ≠ 2 → (j < 34 + 9 * n ∨ 34 + 9 * n + 4 < j) → j ≠ 34 + 9 * n + 7 → vN w j = vN u j) ∧ vN w 2 = n ∧ w 2 = ku (u 2) (80 + n) (tNm (tA u)) ∧ w 0 20 = u 0 20
def kKS (σ u : Kmem) (n nm : Int) (s : Kmem) (r : Prop × Kmem) : Prop := (r.1 → kK σ u n nm s r.2) ∧ (¬ r.1 → (tRs s r.2 ∧ tok r.2 ∧ 1 ≤ r.2 0 18 ∧ r.2 0 18 ≤ 9) ∧ kF σ n s)
theorem kTrait {G : Kg} {σ u s : Kmem} {n nm a k hi q p : Int} {r : Prop × Kmem} {K : Int → Kmem → Prop} (hn : 0 ≤ n ∧ n < 6) (h : kKS σ u n nm s r) (w : isWd a k) (hp : rP q p) (hq : 3 ≤ q ∧ q ≤ 6) (rh : rI hi) (hK : ∀ y s1, rI y → (y = 0 → kKS σ u n nm s1 (cThen r (cTrait k (2090 + 9 * n + p) hi))) → (y ≠ 0 → kKS σ u n nm (kup s1 (31 + 6 + n) q (s1 3 7)) (cThen r (cTrait k (2090 + 9 * n + p) hi))) → K y s1) : Run G WX M_X1_readTrait 5 0 0 [vA G 57, vA G a, vI hi] s K := by
  have RP := rP_i hp hp
  by_cases e : r.1
  rotate_left
  · obtain ⟨⟨h1, h2, h3⟩, h4⟩ := h.2 e
    refine Run.mono (P_X1_readTrait (2090 + 9 * n + p) h1 h2 w (by constructor <;> omega) rh) (fun y s1 x => ?_)
    obtain ⟨x1, x2⟩ := x.1 (by omega)
    subst x1; subst x2
    refine hK 0 s1 (by decide) (fun _ => ?_) (fun z => absurd rfl z)
    rw [cThen_f e]
    exact ⟨fun z => z.elim, fun _ => ⟨⟨h1, h2, h3⟩, h4⟩⟩
  obtain ⟨⟨h1, t⟩, ⟨fr, fb, f31, f315⟩, ⟨rn, row⟩, V, V2, G2, G20⟩ := h.1 e
  rw [cThen_t e] at hK
  generalize r.2 = m at *
  refine Run.mono (P_X1_readTrait (2090 + 9 * n + p) h1 t.1 w (by rw [t.2]; decide) rh) (fun y s1 x => ?_)
  obtain ⟨x1, x2⟩ := x.2 t.2
  by_cases c : tWi m = k
  rotate_left
  · obtain ⟨x3, x4⟩ := x1 c
    subst x3; subst x4
    have E : cTrait k (2090 + 9 * n + p) hi m = (True, m) := kif_f c
    rw [E] at hK
    exact hK 0 s1 (by decide) (fun _ => ⟨fun _ => ⟨⟨h1, t⟩, ⟨fr, fb, f31, f315⟩, ⟨rn, row⟩, V, V2, G2, G20⟩, fun z => absurd trivial z⟩) (fun z => absurd rfl z)
  obtain ⟨x3, x4, x5, x6⟩ := x2 c
  have E : cTrait k (2090 + 9 * n + p) hi m = cNum (2090 + 9 * n + p) 0 hi (tA m) := kif_t c
  rw [E] at hK
  have t2 := tA_k1 (tok_x0 t.1) t.2
  have g := cNum_G (to := 2090 + 9 * n + p) (lo := 0) (hi := hi) t2 (by omega)
  have fr1 : kF σ n s1 := fun x a b c d => by rw [x5.1 x a]; exact fr x a b c d
  refine hK y s1 (r01 x3) (fun z => ?_) (fun z => ?_)
  · have nn := no x3 z
    exact ⟨fun z => absurd z nn, fun _ => ⟨⟨x4, (g.2.2.1 nn).2, (g.2.2.1 nn).1⟩, fr1⟩⟩
  · have yy := yes x3 z
    have v := nv_num (i := 34 + 9 * n + p) yy (by omega)
    rw [nv_tA] at v
    have m6 := x6 yy
    have a15 : (cNum (2090 + 9 * n + p) 0 hi (tA m)).2 1 (2090 + 9 * n + p) = vN (cNum (2090 + 9 * n + p) 0 hi (tA m)).2 (34 + 9 * n + p) := by
      show _ = (cNum (2090 + 9 * n + p) 0 hi (tA m)).2 1 (2056 + (34 + 9 * n + p))
      rw [show (2056 : Int) + (34 + 9 * n + p) = 2090 + 9 * n + p by omega]
    refine ⟨fun _ => ⟨⟨tRs_57 x4 (by omega), g.2.1 yy⟩, ⟨fun x a b c d => by rw [kup_o d]; exact fr1 x a b c d, ?_, fun j hj => ?_, ?_⟩, ⟨?_, fun q' p' hp' => ?_⟩, fun j a b c => ?_, ?_, ?_, ?_⟩, fun z => absurd yy z⟩
    · rw [kup_o (x := 57) (by omega), x5.1 57 (by omega)]; exact fb
    · rw [kup_o (by omega), x5.1 31 (by omega)]; exact f31 j hj
    · rw [kup_o (by omega), x5.1 31 (by omega)]; exact f315
    · rw [kup_j (by omega), x5.1 _ (by omega)]; exact rn
    · have I := rP_i hp hp'
      by_cases eq : q' = q
      · rw [eq, kup_at, I.1.1 eq, m6, a15]
      · rw [kup_j eq, x5.1 _ (by omega), v.1 _ (fun z => eq (I.1.2 (by omega)))]; exact row q' p' hp'
    · have : p = 2 ∨ p = 3 ∨ p = 4 ∨ p = 7 := by unfold rP at hp; omega
      rw [v.1 j (by omega)]; exact V j a b c
    · rw [v.1 2 (by omega)]; exact V2
    · rw [g2_num yy, tA_fr.1 2 (by omega)]; exact G2
    · rw [fT0_20 g.1, tA_fr.2 20 (by omega)]; exact G20
/-- the kite that was read is one of the county's -/
theorem kK_Y {σ u : Kmem} {n nm : Int} {s w : Kmem} (hn : 0 ≤ n ∧ n < 6) (h : kK σ u n nm s w) (hy : tY σ (vN u) (u 2) (u 0 20)) (c : cz (vN u) (u 0 20)) (e2 : vN u 2 = n) (N : nmE nm (tNm (tA u))) : tRs s (kInc w 2058) ∧ tY s (vN (kInc w 2058)) ((kInc w 2058) 2) ((kInc w 2058) 0 20) := by
  have w1 := wf_h c.1
  obtain ⟨⟨h1, t⟩, ⟨fr, fb, f31, f315⟩, ⟨rn, row⟩, V, V2, G2, G20⟩ := h
  have v5 := nv_inc (τ := w) (i := 2) (show (2058 : Int) = 2056 + 2 by rfl)
  rw [show (kInc w 2058) 0 = w 0 from kup_o (by omega), g2_inc, G2, G20]
  refine ⟨tRs_1 h1 (by omega), ?_⟩
  obtain ⟨⟨kH, kW, kK, kC, kT⟩, nm0, b2', b3'⟩ := hy
  have V' : ∀ j, j ≠ 2 → (j < 34 + 9 * n ∨ 34 + 9 * n + 4 < j) → j ≠ 34 + 9 * n + 7 → vN (kInc w 2058) j = vN u j := fun j a b c => by rw [v5.1 j a]; exact V j a b c
  have row' : ∀ q p, rP q p → s (31 + 6 + n) q = vN (kInc w 2058) (34 + 9 * n + p) := fun q p hp => by
    have := rP_i hp hp
    rw [v5.1 _ (by omega)]; exact row q p hp
  have V2' : vN (kInc w 2058) 2 = n + 1 := by rw [v5.2, V2]
  generalize vN (kInc w 2058) = v' at *
  have V3 := V' 3 (by omega) (by omega) (by omega)
  have V4 := V' 4 (by omega) (by omega) (by omega)
  refine ⟨⟨?_, fun i p q => ?_, fun i p q => ?_, fun i p q => ?_, fun i p q => ?_⟩, ⟨fun i p q => ?_, fun i p q => ?_, fun i p q => ?_⟩, ?_, ?_⟩
  · unfold kcoH at *
    rw [f31 0 (by omega), f31 1 (by omega), f31 2 (by omega), f31 3 (by omega), f31 4 (by omega), f31 6 (by omega), f31 7 (by omega), f315, V' 0 (by omega) (by omega) (by omega), V' 1 (by omega) (by omega) (by omega), V' 5 (by omega) (by omega) (by omega), V' 6 (by omega) (by omega) (by omega), V' 7 (by omega) (by omega) (by omega), V3, V4, V2']
    exact ⟨kH.1, kH.2.1, rfl, kH.2.2.2⟩
  · rw [fr _ (by omega) (by omega) (by omega) (by omega), fr _ (by omega) (by omega) (by omega) (by omega), V' _ (by omega) (by omega) (by omega), V' _ (by omega) (by omega) (by omega)]
    exact kW i p q
  · by_cases e : i = n
    · rw [e]
      have r1 := row' 1 0 (Or.inl ⟨rfl, rfl⟩)
      rw [Int.add_zero] at r1
      exact ⟨⟨r1, row' 2 1 (by unfold rP; omega), row' 3 2 (by unfold rP; omega)⟩, ⟨row' 4 3 (by unfold rP; omega), row' 5 4 (by unfold rP; omega), row' 7 5 (by unfold rP; omega)⟩, row' 8 6 (by unfold rP; omega), row' 6 7 (by unfold rP; omega), row' 9 8 (by unfold rP; omega)⟩
    · rw [V2'] at q
      have := kK i p (by omega)
      rw [fr _ (by omega) (by omega) (by omega) (by omega), V' _ (by omega) (by omega) (by omega), V' _ (by omega) (by omega) (by omega), V' _ (by omega) (by omega) (by omega), V' _ (by omega) (by omega) (by omega), V' _ (by omega) (by omega) (by omega), V' _ (by omega) (by omega) (by omega), V' _ (by omega) (by omega) (by omega), V' _ (by omega) (by omega) (by omega), V' _ (by omega) (by omega) (by omega)]
      exact this
  · rw [V3] at q
    have := kC i p q
    rw [fr _ (by omega) (by omega) (by omega) (by omega), V' _ (by omega) (by omega) (by omega), V' _ (by omega) (by omega) (by omega), V' _ (by omega) (by omega) (by omega), V' _ (by omega) (by omega) (by omega)]
    exact this
  · rw [V4] at q
    have := kT i p q
    rw [fr _ (by omega) (by omega) (by omega) (by omega), V' _ (by omega) (by omega) (by omega), V' _ (by omega) (by omega) (by omega), V' _ (by omega) (by omega) (by omega), V' _ (by omega) (by omega) (by omega), V' _ (by omega) (by omega) (by omega)]
    exact this
  · by_cases e : i = n
    · have : (37 : Int) + i = 31 + 6 + n := by omega
      rw [this, rn, e, ku_eq]; exact N
    · rw [V2'] at q
      rw [fr _ (by omega) (by omega) (by omega) (by omega), ku_ne (by omega)]; exact nm0.1 i p (by omega)
  · rw [V3] at q
    rw [fr _ (by omega) (by omega) (by omega) (by omega), ku_ne (by omega)]; exact nm0.2.1 i p q
  · rw [V4] at q
    rw [fr _ (by omega) (by omega) (by omega) (by omega), ku_ne (by omega)]; exact nm0.2.2 i p q
  · rw [fb.1]; exact b2'
  · rw [fb.2]; exact b3'
