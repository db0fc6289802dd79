/-! matchings of tenants with fields -/
noncomputable def kcn (p : Int → Prop) (n : Nat) : Int := kfor (fun i a => a + kb (p i)) n 0
theorem kcn_s {p : Int → Prop} {n : Nat} : kcn p (n + 1) = kcn p n + kb (p n) := rfl
theorem kcn_ext {p q : Int → Prop} : ∀ n : Nat, (∀ i : Nat, i < n → (p i ↔ q i)) → kcn p n = kcn q n
  | 0, _ => rfl
  | n + 1, h => by rw [kcn_s, kcn_s, kcn_ext n (fun i hi => h i (by omega)), kb_iff (h n (by omega))]
theorem kcn_r {p : Int → Prop} : ∀ n : Nat, 0 ≤ kcn p n ∧ kcn p n ≤ n
  | 0 => ⟨Int.le_refl 0, Int.le_refl 0⟩
  | n + 1 => by rw [kcn_s]; have := kcn_r (p := p) n; rcases kb_01 (p n) with h | h <;> omega
theorem kcn_rem {q : Int → Prop} {y : Int} : ∀ m : Nat, (0 ≤ y ∧ y < m) → q y → kcn (fun z => q z ∧ z ≠ y) m = kcn q m - 1
  | 0, h, _ => by omega
  | m + 1, h, hq => by
    rw [kcn_s, kcn_s]
    by_cases e : y = m
    · subst e
      rw [kb_0 (P := q m ∧ (m : Int) ≠ m) (fun z => z.2 rfl), kb_1 hq, kcn_ext (q := q) m (fun i hi => ⟨fun z => z.1, fun z => ⟨z, by omega⟩⟩)]; omega
    · rw [kcn_rem m (by omega) hq, kb_iff (⟨fun z => z.1, fun z => ⟨z, by omega⟩⟩ : q m ∧ (m : Int) ≠ y ↔ q m)]; omega
theorem kcn_inj {h : Int → Int} {m : Nat} {p : Int → Prop} : ∀ (n : Nat) (q : Int → Prop), (∀ x : Nat, x < n → p x → (0 ≤ h x ∧ h x < m) ∧ q (h x)) → (∀ x y : Nat, x < n → y < n → p x → p y → h x = h y → x = y) → kcn p n ≤ kcn q m
  | 0, q, _, _ => (kcn_r m).1
  | n + 1, q, h1, h2 => by
    rw [kcn_s]
    by_cases z : p n
    · have hn := h1 n (by omega) z
      have := kcn_inj n (fun z => q z ∧ z ≠ h n) (fun x hx px => ⟨(h1 x (by omega) px).1, (h1 x (by omega) px).2, fun e => by have := h2 x n (by omega) (by omega) px z e; omega⟩) (fun x y hx hy px py e => h2 x y (by omega) (by omega) px py e)
      rw [kcn_rem m hn.1 hn.2] at this
      rw [kb_1 z]; omega
    · rw [kb_0 z]
      have := kcn_inj n q (fun x hx px => h1 x (by omega) px) (fun x y hx hy px py e => h2 x y (by omega) (by omega) px py e)
      omega
theorem kcn_T {n : Nat} : kcn (fun _ => True) n = n := by
  induction n with
  | zero => rfl
  | succ n ih => rw [kcn_s, ih, kb_1 trivial]; omega
abbrev r7 (f : Int) : Prop := 0 ≤ f ∧ f < 70
def mOK (A : Int → Int → Prop) (i : Int) (K : Int → Int) : Prop := (∀ f, r7 f → K f = -1 ∨ (0 ≤ K f ∧ K f < i) ∧ A (K f) f) ∧ ∀ f g, r7 f → r7 g → K f = K g → K f ≠ -1 → f = g
def mCov (K : Int → Int) (t : Int) : Prop := ∃ f, r7 f ∧ K f = t
def mDead (A : Int → Int → Prop) (i : Int) (K : Int → Int) (D : Int → Prop) : Prop := (∀ t, 0 ≤ t → t < i → ¬ mCov K t → D t) ∧ ∀ d, D d → (0 ≤ d ∧ d < i) ∧ ∀ f, A d f → K f ≠ -1 ∧ D (K f)
/-- the search -/
def mB (A : Int → Int → Prop) (t : Int) (K R q : Int → Int) (many i f : Int) : Prop :=
  (q 0 = t ∧ 1 ≤ many ∧ 0 ≤ i ∧ many ≤ 6) ∧ (∀ j, 0 ≤ j → j < many → 0 ≤ q j ∧ q j ≤ t) ∧ (∀ j k, 0 ≤ j → j < many → 0 ≤ k → k < many → q j = q k → j = k) ∧
  (∀ g, r7 g → R g ≠ -1 → ∃ j k, (0 ≤ j ∧ j ≤ i) ∧ (j < k ∧ k < many) ∧ R g = q j ∧ A (q j) g ∧ K g = q k) ∧
  (∀ j, 0 < j → j < many → ∃ g, r7 g ∧ K g = q j ∧ R g ≠ -1) ∧
  (∀ j, 0 ≤ j → j < i → ∀ g, A (q j) g → R g ≠ -1) ∧ (∀ g, g < f → A (q i) g → R g ≠ -1)
/-- the path back -/
def mP (A : Int → Int → Prop) (t many : Int) (K R q : Int → Int) (D : Int → Prop) (K' : Int → Int) (f j : Int) : Prop :=
  (r7 f ∧ (0 ≤ j ∧ j < many) ∧ R f = q j ∧ A (q j) f) ∧ (∀ g, r7 g → g ≠ f → K' g = -1 ∨ (0 ≤ K' g ∧ K' g < t) ∧ A (K' g) g) ∧
  (∀ g h, r7 g → r7 h → g ≠ f → h ≠ f → K' g = K' h → K' g ≠ -1 → g = h) ∧ (∀ x, x ≠ -1 → ((∃ g, r7 g ∧ g ≠ f ∧ K' g = x) ↔ mCov K x)) ∧
  (∀ g, r7 g → K' g = K g ∨ ∃ k, (j < k ∧ k < many) ∧ K' g = q k) ∧ (K f = -1 ∨ ¬ D (K f)) ∧ (∀ g, r7 g → K g ≠ -1 → D (K g) → K' g = K g)
theorem mB_skip {A : Int → Int → Prop} {t many i f : Int} {K R q : Int → Int} (h : mB A t K R q many i f) (hs : A (q i) f → R f ≠ -1) : mB A t K R q many i (f + 1) := by
  obtain ⟨h1, h2, h3, h4, h5, h6, h7⟩ := h
  refine ⟨h1, h2, h3, h4, h5, h6, fun g hg a => ?_⟩
  by_cases e : g = f
  · subst e; exact hs a
  · exact h7 g (by omega) a
theorem mB_next {A : Int → Int → Prop} {t many i : Int} {K R q : Int → Int} (hA : ∀ t f, A t f → r7 f) (h : mB A t K R q many i 70) : mB A t K R q many (i + 1) 0 := by
  obtain ⟨h1, h2, h3, h4, h5, h6, h7⟩ := h
  refine ⟨by omega, h2, h3, fun g a b => ?_, h5, fun j a b g hg => ?_, fun g hg a => ?_⟩
  · obtain ⟨j, k, c1, c2⟩ := h4 g a b; exact ⟨j, k, by omega, c2⟩
  · by_cases e : j = i
    · subst e; exact h7 g (by have := hA _ _ hg; omega) hg
    · exact h6 j a (by omega) g hg
  · have := hA _ _ a; omega
/-- no tenant of the queue holds a field that isn't reached -/
theorem mB_new {A : Int → Int → Prop} {t many i f : Int} {K R q : Int → Int} (hK : mOK A t K) (h : mB A t K R q many i f) (hf : r7 f) (hR : R f = -1) (hKf : K f ≠ -1) : ∀ j, 0 ≤ j → j < many → q j ≠ K f := by
  obtain ⟨h1, h2, h3, h4, h5, h6, h7⟩ := h
  intro j a b e
  have kf := (hK.1 f hf).resolve_left hKf
  by_cases z : j = 0
  · subst z; omega
  · obtain ⟨g, g1, g2, g3⟩ := h5 j (by omega) b
    have := hK.2 g f g1 hf (by rw [g2, e]) (by rw [g2, e]; exact hKf)
    subst this; exact g3 hR
theorem mB_many {A : Int → Int → Prop} {t many i f : Int} {K R q : Int → Int} (ht : t < 6) (hK : mOK A t K) (h : mB A t K R q many i f) (hf : r7 f) (hR : R f = -1) (hKf : K f ≠ -1) : many < 6 := by
  have nw := mB_new hK h hf hR hKf
  obtain ⟨h1, h2, h3, -⟩ := h
  have kf := (hK.1 f hf).resolve_left hKf
  have := kcn_inj (h := fun j => if j < many then q j else K f) (m := 6) (p := fun _ => True) (many.toNat + 1) (fun _ => True) (fun x hx _ => ⟨?_, trivial⟩) (fun x y hx hy _ _ e => ?_)
  · rw [kcn_T, kcn_T] at this; omega
  · show 0 ≤ (if (x : Int) < many then q x else K f) ∧ (if (x : Int) < many then q x else K f) < ((6 : Nat) : Int)
    split
    · rename_i y; have := h2 x (by omega) y; omega
    · omega
  · have e : (if (x : Int) < many then q x else K f) = (if (y : Int) < many then q y else K f) := e
    by_cases a : (x : Int) < many
    · by_cases b : (y : Int) < many
      · rw [if_pos a, if_pos b] at e
        have := h3 x y (by omega) a (by omega) b e; omega
      · rw [if_pos a, if_neg b] at e; exact absurd e (nw x (by omega) a)
    · by_cases b : (y : Int) < many
      · rw [if_neg a, if_pos b] at e; exact absurd e.symm (nw y (by omega) b)
      · omega
theorem mB_push {A : Int → Int → Prop} {t many i f : Int} {K R q : Int → Int} (ht : t < 6) (hK : mOK A t K) (h : mB A t K R q many i f) (hi : i < many) (hf : r7 f) (hR : R f = -1) (hKf : K f ≠ -1) (ha : A (q i) f) : mB A t K (ku R f (q i)) (ku q many (K f)) (many + 1) i (f + 1) := by
  have nw := mB_new hK h hf hR hKf
  have mn := mB_many ht hK h hf hR hKf
  obtain ⟨h1, h2, h3, h4, h5, h6, h7⟩ := h
  have kf := (hK.1 f hf).resolve_left hKf
  have q0 : ∀ j, j < many → ku q many (K f) j = q j := fun j hj => ku_ne (by omega)
  have qi := h2 i h1.2.2.1 hi
  refine ⟨⟨by rw [q0 0 (by omega)]; exact h1.1, by omega, by omega, by omega⟩, fun j a b => ?_, fun j k a b c d e => ?_, fun g g1 g2 => ?_, fun j a b => ?_, fun j a b g hg => ?_, fun g hg a => ?_⟩
  · by_cases z : j = many
    · rw [z, ku_eq]; omega
    · rw [q0 j (by omega)]; exact h2 j a (by omega)
  · by_cases z : j = many
    · by_cases y : k = many
      · omega
      · rw [z, ku_eq, q0 k (by omega)] at e; exact absurd e.symm (nw k c (by omega))
    · by_cases y : k = many
      · rw [y, ku_eq, q0 j (by omega)] at e; exact absurd e (nw j a (by omega))
      · rw [q0 j (by omega), q0 k (by omega)] at e; exact h3 j k a (by omega) c (by omega) e
  · by_cases z : g = f
    · subst z
      exact ⟨i, many, by omega, by omega, by rw [ku_eq, q0 i hi], by rw [q0 i hi]; exact ha, by rw [ku_eq]⟩
    · rw [ku_ne z] at g2 ⊢
      obtain ⟨j, k, c1, c2, c3, c4, c5⟩ := h4 g g1 g2
      exact ⟨j, k, c1, by omega, by rw [q0 j (by omega)]; exact c3, by rw [q0 j (by omega)]; exact c4, by rw [q0 k (by omega)]; exact c5⟩
  · by_cases z : j = many
    · exact ⟨f, hf, by rw [z, ku_eq], by rw [ku_eq]; omega⟩
    · obtain ⟨g, g1, g2, g3⟩ := h5 j a (by omega)
      refine ⟨g, g1, by rw [q0 j (by omega)]; exact g2, ?_⟩
      by_cases y : g = f
      · subst y; exact absurd hR g3
      · rw [ku_ne y]; exact g3
  · rw [q0 j (by omega)] at hg
    by_cases y : g = f
    · subst y; rw [ku_eq]; omega
    · rw [ku_ne y]; exact h6 j a b g hg
  · rw [q0 i hi] at a
    by_cases y : g = f
    · subst y; rw [ku_eq]; omega
    · rw [ku_ne y]; exact h7 g (by omega) a
/-- found nothing -/
theorem mB_fail {A : Int → Int → Prop} {t many i : Int} {K R q : Int → Int} {D : Int → Prop} (ht : 0 ≤ t) (hA : ∀ t f, A t f → r7 f) (hK : mOK A t K) (h : mB A t K R q many i 0) (hi : many ≤ i) (hD : mDead A t K D) : mOK A (t + 1) K ∧ mDead A (t + 1) K (fun d => D d ∨ ∃ j, (0 ≤ j ∧ j < many) ∧ d = q j) ∧ ¬ mCov K t := by
  obtain ⟨h1, h2, h3, h4, h5, h6, h7⟩ := h
  refine ⟨⟨fun f hf => (hK.1 f hf).imp id (fun z => ⟨by omega, z.2⟩), hK.2⟩, ⟨fun x a b nc => ?_, fun d hd => ?_⟩, ?_⟩
  · by_cases e : x = t
    · exact Or.inr ⟨0, by omega, by rw [h1.1]; exact e⟩
    · exact Or.inl (hD.1 x a (by omega) nc)
  · rcases hd with hd | ⟨j, hj, rfl⟩
    · have := hD.2 d hd
      exact ⟨by omega, fun f hf => ⟨(this.2 f hf).1, Or.inl (this.2 f hf).2⟩⟩
    · have := h2 j hj.1 hj.2
      refine ⟨by omega, fun f hf => ?_⟩
      have rf := h6 j hj.1 (by omega) f hf
      obtain ⟨j', k, c1, c2, c3, c4, c5⟩ := h4 f (hA _ _ hf) rf
      have := h2 k (by omega) c2.2
      exact ⟨by omega, Or.inr ⟨k, by omega, c5⟩⟩
  · rintro ⟨f, hf, e⟩
    rcases hK.1 f hf with z | z <;> omega
/-- the path begins -/
theorem mP_0 {A : Int → Int → Prop} {t many i f : Int} {K R q : Int → Int} {D : Int → Prop} (hK : mOK A t K) (h : mB A t K R q many i f) (hi : i < many) (hf : r7 f) (hKf : K f = -1) (ha : A (q i) f) : mP A t many K (ku R f (q i)) q D K f i := by
  obtain ⟨h1, -⟩ := h
  refine ⟨⟨hf, by omega, ku_eq, ha⟩, fun g hg _ => hK.1 g hg, fun g k g1 g2 _ _ e n => hK.2 g k g1 g2 e n, fun x hx => ⟨fun ⟨g, g1, _, g3⟩ => ⟨g, g1, g3⟩, fun ⟨g, g1, g2⟩ => ⟨g, g1, fun e => by subst e; omega, g2⟩⟩, fun g _ => Or.inl rfl, Or.inl hKf, fun g _ _ _ => rfl⟩
/-- the path ends at t -/
theorem mP_end {A : Int → Int → Prop} {t many f j : Int} {K R q K' : Int → Int} {D : Int → Prop} (ht : 0 ≤ t) (hD : mDead A t K D) (hA : ∀ t f, A t f → r7 f) (h : mP A t many K R q D K' f j) (hq : q j = t) (hnc : ¬ mCov K t) : mOK A (t + 1) (ku K' f t) ∧ mDead A (t + 1) (ku K' f t) D ∧ ∀ x, x ≠ -1 → (mCov (ku K' f t) x ↔ mCov K x ∨ x = t) := by
  obtain ⟨⟨hf, hj, hR, ha⟩, h2, h3, h4, h5, h6, h7⟩ := h
  have cov : ∀ x, x ≠ -1 → (mCov (ku K' f t) x ↔ mCov K x ∨ x = t) := by
    intro x hx
    constructor
    · rintro ⟨g, g1, g2⟩
      by_cases e : g = f
      · subst e; rw [ku_eq] at g2; exact Or.inr g2.symm
      · rw [ku_ne e] at g2; exact Or.inl ((h4 x hx).1 ⟨g, g1, e, g2⟩)
    · rintro (c | c)
      · obtain ⟨g, g1, g2, g3⟩ := (h4 x hx).2 c
        exact ⟨g, g1, by rw [ku_ne g2]; exact g3⟩
      · exact ⟨f, hf, by rw [ku_eq]; exact c.symm⟩
  refine ⟨⟨fun g hg => ?_, fun g k hg hk e n => ?_⟩, ⟨fun x a b nc => ?_, fun d hd => ?_⟩, cov⟩
  · by_cases e : g = f
    · subst e; rw [ku_eq]; rw [hq] at ha; exact Or.inr ⟨by omega, ha⟩
    · rw [ku_ne e]; exact (h2 g hg e).imp id (fun z => ⟨by omega, z.2⟩)
  · by_cases e1 : g = f
    · by_cases e2 : k = f
      · omega
      · rw [e1, ku_eq, ku_ne e2] at e
        rcases h2 k hk e2 with z | z <;> omega
    · by_cases e2 : k = f
      · rw [e2, ku_eq, ku_ne e1] at e
        rcases h2 g hg e1 with z | z <;> omega
      · rw [ku_ne e1] at n
        rw [ku_ne e1, ku_ne e2] at e
        exact h3 g k hg hk e1 e2 e n
  · have : ¬ mCov K x := fun c => nc ((cov x (by omega)).2 (Or.inl c))
    by_cases e : x = t
    · exact absurd ((cov x (by omega)).2 (Or.inr e)) nc
    · exact hD.1 x a (by omega) this
  · have d2 := hD.2 d hd
    refine ⟨by omega, fun g hg => ?_⟩
    have gg := d2.2 g hg
    have ne : g ≠ f := fun e => by
      subst e
      rcases h6 with z | z
      · exact gg.1 z
      · exact z gg.2
    rw [ku_ne ne, h7 g (hA _ _ hg) gg.1 gg.2]; exact gg
/-- the path goes on -/
theorem mP_next {A : Int → Int → Prop} {t many i0 f0 f j o : Int} {K R R0 q K' : Int → Int} {D : Int → Prop} (hD : mDead A t K D) (hK : mOK A t K) (hB : mB A t K R0 q many i0 f0) (hR0 : ∀ g, R0 g ≠ -1 → R g = R0 g) (h : mP A t many K R q D K' f j) (hj : 0 < j) (ho : r7 o ∧ o ≠ f ∧ K' o = q j) : ∃ j', j' < j ∧ mP A t many K R q D (ku K' f (q j)) o j' := by
  obtain ⟨⟨hf, hjm, hR, ha⟩, h2, h3, h4, h5, h6, h7⟩ := h
  obtain ⟨b1, b2, b3, b4, b5, -, -⟩ := hB
  obtain ⟨o1, o2, o3⟩ := ho
  have qj := b2 j hjm.1 hjm.2
  have qj1 : q j ≠ -1 := by omega
  -- o is as it was
  have ok : K o = q j := by
    rcases h5 o o1 with z | ⟨k, k1, k2⟩
    · rw [← z]; exact o3
    · have := b3 j k hjm.1 hjm.2 (by omega) k1.2 (by rw [← o3, ← k2]); omega
  obtain ⟨g, g1, g2, g3⟩ := b5 j hj hjm.2
  have : g = o := hK.2 g o g1 o1 (by rw [g2, ok]) (by rw [g2]; exact qj1)
  subst this
  obtain ⟨j', k, c1, c2, c3, c4, c5⟩ := b4 g g1 g3
  have kj : k = j := b3 k j (by omega) c2.2 hjm.1 hjm.2 (by rw [← c5, ok])
  subst kj
  have ndq : ¬ D (q k) := fun d => by
    have := (hD.2 _ d).2 f ha
    rcases h6 with z | z
    · exact this.1 z
    · exact z this.2
  have qlt : q k < t := by
    have := (hK.1 g g1).resolve_left (by rw [ok]; exact qj1)
    rw [ok] at this; omega
  refine ⟨j', by omega, ⟨⟨g1, by omega, by rw [hR0 g g3]; exact c3, c4⟩, fun x hx nx => ?_, fun x y hx hy nx ny e n => ?_, fun x hx => ?_, fun x hx => ?_, Or.inr (by rw [ok]; exact ndq), fun x hx n d => ?_⟩⟩
  · by_cases e : x = f
    · subst e; rw [ku_eq]; exact Or.inr ⟨by omega, ha⟩
    · rw [ku_ne e]; exact h2 x hx e
  · by_cases e1 : x = f
    · by_cases e2 : y = f
      · omega
      · rw [e1, ku_eq, ku_ne e2] at e
        have := h3 g y g1 hy o2 e2 (by rw [o3, e]) (by rw [o3]; exact qj1)
        omega
    · by_cases e2 : y = f
      · rw [e2, ku_eq, ku_ne e1] at e
        have := h3 g x g1 hx o2 e1 (by rw [o3, e]) (by rw [o3]; exact qj1)
        omega
      · rw [ku_ne e1] at n
        rw [ku_ne e1, ku_ne e2] at e
        exact h3 x y hx hy e1 e2 e n
  · rw [← h4 x hx]
    constructor
    · rintro ⟨y, y1, y2, y3⟩
      by_cases e : y = f
      · subst e; rw [ku_eq] at y3; exact ⟨g, g1, o2, by rw [o3]; exact y3⟩
      · rw [ku_ne e] at y3; exact ⟨y, y1, e, y3⟩
    · rintro ⟨y, y1, y2, y3⟩
      by_cases e : y = g
      · subst e; exact ⟨f, hf, fun e => o2 e.symm, by rw [ku_eq, ← o3]; exact y3⟩
      · exact ⟨y, y1, e, by rw [ku_ne y2]; exact y3⟩
  · by_cases e : x = f
    · subst e; rw [ku_eq]; exact Or.inr ⟨k, by omega, rfl⟩
    · rw [ku_ne e]
      rcases h5 x hx with z | ⟨k', k1, k2⟩
      · exact Or.inl z
      · exact Or.inr ⟨k', by omega, k2⟩
  · by_cases e : x = f
    · subst e
      rcases h6 with z | z
      · exact absurd z n
      · exact absurd d z
    · rw [ku_ne e]; exact h7 x hx n d
/-- there is such a field -/
theorem mP_has {A : Int → Int → Prop} {t many i0 f0 f j : Int} {K R R0 q K' : Int → Int} {D : Int → Prop} (hB : mB A t K R0 q many i0 f0) (h : mP A t many K R q D K' f j) (hj : 0 < j) : ∃ o, r7 o ∧ o ≠ f ∧ K' o = q j := by
  obtain ⟨⟨hf, hjm, -⟩, -, -, h4, -⟩ := h
  obtain ⟨b1, b2, b3, b4, b5, -, -⟩ := hB
  have qj := b2 j hjm.1 hjm.2
  obtain ⟨g, g1, g2, -⟩ := b5 j hj hjm.2
  exact (h4 (q j) (by omega)).2 ⟨g, g1, g2⟩
/-- a set of tenants that can be settled on fields of F -/
def mAble (A : Int → Int → Prop) (F : Int → Prop) (S : Int → Prop) : Prop := ∃ g : Int → Int, (∀ t, S t → F (g t) ∧ A t (g t)) ∧ ∀ t s, S t → S s → g t = g s → t = s
theorem mAble_le {A : Int → Int → Prop} {T : Nat} {K : Int → Int} {D S F : Int → Prop} (hA : ∀ t f, A t f → r7 f ∧ 0 ≤ t ∧ t < T) (hK : mOK A T K) (hD : mDead A T K D) (h : mAble A F S) : kcn S T ≤ kcn (mCov K) T := by
  obtain ⟨g, g1, g2⟩ := h
  let H : Int → Int := fun t => @ite Int (D t) (Classical.propDecidable _) (K (g t)) t
  have Hd : ∀ t, D t → H t = K (g t) := fun t h => if_pos h
  have Hn : ∀ t, ¬ D t → H t = t := fun t h => if_neg h
  refine kcn_inj (h := H) T (mCov K) (fun x hx px => ?_) (fun x y hx hy px py e => ?_)
  · have ax := (g1 x px).2
    by_cases d : D x
    · rw [Hd x d]
      have k := ((hD.2 x d).2 _ ax).1
      have := (hK.1 _ (hA _ _ ax).1).resolve_left k
      exact ⟨this.1, ⟨_, (hA _ _ ax).1, rfl⟩⟩
    · rw [Hn x d]
      refine ⟨by omega, Classical.byContradiction fun nc => d (hD.1 x (by omega) (by omega) nc)⟩
  · have ax := (g1 x px).2
    have ay := (g1 y py).2
    by_cases d : D x
    · have kx := (hD.2 x d).2 _ ax
      by_cases d2 : D y
      · rw [Hd x d, Hd y d2] at e
        have := hK.2 _ _ (hA _ _ ax).1 (hA _ _ ay).1 e kx.1
        have := g2 x y px py this
        omega
      · rw [Hd x d, Hn y d2] at e
        rw [e] at kx; exact absurd kx.2 d2
    · by_cases d2 : D y
      · have ky := (hD.2 y d2).2 _ ay
        rw [Hn x d, Hd y d2] at e
        rw [← e] at ky; exact absurd ky.2 d
      · rw [Hn x d, Hn y d2] at e; omega
theorem mAble_cov {A : Int → Int → Prop} {T : Int} {K : Int → Int} (hK : mOK A T K) : mAble A r7 (fun t => t ≠ -1 ∧ mCov K t) := by
  let g : Int → Int := fun t => @dite Int (mCov K t) (Classical.propDecidable _) (fun h => Classical.choose h) (fun _ => 0)
  have gs : ∀ t, mCov K t → r7 (g t) ∧ K (g t) = t := fun t h => by
    have e : g t = Classical.choose h := dif_pos h
    rw [e]; exact Classical.choose_spec h
  refine ⟨g, fun t h => ?_, fun t s h1 h2 e => ?_⟩
  · have := gs t h.2
    refine ⟨this.1, ?_⟩
    have k := (hK.1 _ this.1).resolve_left (by rw [this.2]; exact h.1)
    rw [this.2] at k; exact k.2
  · rw [← (gs t h1.2).2, ← (gs s h2.2).2, e]
