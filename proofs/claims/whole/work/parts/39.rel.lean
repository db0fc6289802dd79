/-! THE CLASS'S COUNTY at c holds v -/
def kcoH (σ : Kmem) (c : Int) (v : Int → Int) : Prop := (σ c 0 = v 0 ∧ σ c 1 = v 1 ∧ σ c 2 = v 5 ∧ σ c 3 = v 6) ∧ σ c 4 = v 7 ∧ σ c 5 = v 2 ∧ σ c 6 = v 3 ∧ σ c 7 = v 4
def kcoW (σ : Kmem) (c : Int) (v : Int → Int) : Prop := ∀ h, 0 ≤ h → h < 12 → σ (c + 1) h = v (10 + 2 * h) ∧ σ (c + 2) h = v (10 + 2 * h + 1)
def kcoK (σ : Kmem) (c : Int) (v : Int → Int) : Prop := ∀ k, 0 ≤ k → k < v 2 → (σ (c + 6 + k) 1 = v (34 + 9 * k) ∧ σ (c + 6 + k) 2 = v (34 + 9 * k + 1) ∧ σ (c + 6 + k) 3 = v (34 + 9 * k + 2)) ∧ (σ (c + 6 + k) 4 = v (34 + 9 * k + 3) ∧ σ (c + 6 + k) 5 = v (34 + 9 * k + 4) ∧ σ (c + 6 + k) 7 = v (34 + 9 * k + 5)) ∧ σ (c + 6 + k) 8 = v (34 + 9 * k + 6) ∧ σ (c + 6 + k) 6 = v (34 + 9 * k + 7) ∧ σ (c + 6 + k) 9 = v (34 + 9 * k + 8)
def kcoC (σ : Kmem) (c : Int) (v : Int → Int) : Prop := ∀ i, 0 ≤ i → i < v 3 → (σ (c + 12 + i) 1 = v (88 + 4 * i) ∧ σ (c + 12 + i) 2 = v (88 + 4 * i + 1)) ∧ σ (c + 12 + i) 3 = v (88 + 4 * i + 2) ∧ σ (c + 12 + i) 4 = v (88 + 4 * i + 3)
def kcoT (σ : Kmem) (c : Int) (v : Int → Int) : Prop := ∀ i, 0 ≤ i → i < v 4 → (σ (c + 20 + i) 1 = v (120 + 5 * i) ∧ σ (c + 20 + i) 2 = v (120 + 5 * i + 1)) ∧ σ (c + 20 + i) 3 = v (120 + 5 * i + 2) ∧ σ (c + 20 + i) 4 = v (120 + 5 * i + 3) ∧ σ (c + 20 + i) 5 = v (120 + 5 * i + 4)
def kco (σ : Kmem) (c : Int) (v : Int → Int) : Prop := kcoH σ c v ∧ kcoW σ c v ∧ kcoK σ c v ∧ kcoC σ c v ∧ kcoT σ c v
theorem kco_h {σ : Kmem} {c : Int} {v : Int → Int} (h : kco σ c v) : (σ c 0 = v 0 ∧ σ c 1 = v 1 ∧ σ c 2 = v 5 ∧ σ c 3 = v 6) ∧ σ c 4 = v 7 ∧ σ c 5 = v 2 ∧ σ c 6 = v 3 ∧ σ c 7 = v 4 := h.1
/-- the memory is the same but in the cells of A -/
def kfm (A : Int → Prop) (s σ : Kmem) : Prop := ∀ x, ¬ A x → s x = σ x
theorem kfm.refl {A : Int → Prop} {σ : Kmem} : kfm A σ σ := fun _ _ => rfl
theorem kfm.trans {A : Int → Prop} {s t u : Kmem} (h : kfm A s t) (g : kfm A t u) : kfm A s u := fun x q => (h x q).trans (g x q)
theorem kfm.wide {A B : Int → Prop} {s t : Kmem} (h : kfm A s t) (g : ∀ x, A x → B x) : kfm B s t := fun x q => h x (fun z => q (g x z))
theorem kfm_kst {A : Int → Prop} {σ : Kmem} {x : Int} {v : Int → Int} (h : A x) : kfm A (kst σ x v) σ := fun y q => kst_ne (fun e => q (e ▸ h))
theorem kup_at {σ : Kmem} {x j y : Int} : kup σ x j y x j = y := if_pos ⟨rfl, rfl⟩
theorem kup_x {σ : Kmem} {x z j k y : Int} (h : z ≠ x) : kup σ x j y z k = σ z k := if_neg (fun q => h q.1)
theorem kup_j {σ : Kmem} {x z j k y : Int} (h : k ≠ j) : kup σ x j y z k = σ z k := if_neg (fun q => h q.2)
/-- the county stays, where another part of the memory is written -/
theorem kco_kfm {A : Int → Prop} {s σ : Kmem} {c : Int} {v : Int → Int} (w : wf v) (h : kco σ c v) (f : kfm A s σ) (hA : ∀ x, c ≤ x → x < c + 26 → ¬ A x) : kco s c v := by
  have w1 := wf_h w
  have e : ∀ x, c ≤ x → x < c + 26 → s x = σ x := fun x a b => f x (hA x a b)
  refine ⟨?_, ?_, ?_, ?_, ?_⟩
  · unfold kcoH; rw [e c (by omega) (by omega)]; exact h.1
  · intro k h1 h2; have := h.2.1 k h1 h2; rw [e (c + 1) (by omega) (by omega), e (c + 2) (by omega) (by omega)]; exact this
  · intro k h1 h2; have := h.2.2.1 k h1 h2; rw [e (c + 6 + k) (by omega) (by omega)]; exact this
  · intro k h1 h2; have := h.2.2.2.1 k h1 h2; rw [e (c + 12 + k) (by omega) (by omega)]; exact this
  · intro k h1 h2; have := h.2.2.2.2 k h1 h2; rw [e (c + 20 + k) (by omega) (by omega)]; exact this
