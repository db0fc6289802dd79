/-! Seasons: tests -/
theorem tRs_A {s u v : Kmem} (hb : bA v = bA u) (h0 : v 0 14 = u 0 14 ∧ v 0 11 = u 0 11 ∧ v 0 17 = u 0 17 ∧ v 0 18 = u 0 18) (h7 : v 7 = u 7) (h : tRs s (tA u)) : tRs s (tA v) := by
  have A := tA_v (τ := u)
  have A' := tA_v (τ := v)
  have fA := tA_fr (τ := u)
  have fA' := tA_fr (τ := v)
  have S : tS v = tS u := by unfold tS; rw [hb, h0.1]
  have E : tE v = tE u := by unfold tE; rw [hb, S]
  have V : tV v = tV u := by unfold tV; rw [hb, S, E]
  have K : tK v = tK u := by unfold tK; rw [hb, S, E]
  have bb : bA (tA v) = bA (tA u) := by funext i; rw [tFr_b fA', tFr_b fA, hb]
  unfold tRs tRt at *
  rw [A'.1, A'.2.1, A'.2.2.1, A'.2.2.2, fA'.2 11 (by omega), fA'.2 17 (by omega), fA'.2 18 (by omega), fA'.1 7 (by omega), bb, S, E, V, K, h0.2.1, h0.2.2.1, h0.2.2.2, h7]
  rw [A.1, A.2.1, A.2.2.1, A.2.2.2, fA.2 11 (by omega), fA.2 17 (by omega), fA.2 18 (by omega), fA.1 7 (by omega)] at h
  exact h
theorem tRs_A1 {s u : Kmem} {j y : Int} (h : tRs s (tA u)) : tRs s (tA (kup u 1 j y)) := by
  have f0 : (kup u 1 j y) 0 = u 0 := kup_o (by omega)
  have f7 : (kup u 1 j y) 7 = u 7 := kup_o (by omega)
  exact tRs_A (by funext i; unfold bA; rw [f0, f7]) (by rw [f0]; exact ⟨rfl, rfl, rfl, rfl⟩) f7 h
/-- a test's number in the class -/
def zTs (w : Int → Int) (i : Int) : Int := if w i = 2025 then 4 else if w i = 2026 then 5 else if w (i + 5) = 60 then 1 else if w (i + 5) = 62 then 2 else 3
/-- columns 2, 3, 4 may have changed, at their line -/
def zT (s : Int) (t σ : Kmem) : Prop := (∀ x, x ≠ 3 → x ≠ s + 2 → x ≠ s + 3 → x ≠ s + 4 → t x = σ x) ∧ ∀ j, j ≠ σ s 2 → t (s + 2) j = σ (s + 2) j ∧ t (s + 3) j = σ (s + 3) j ∧ t (s + 4) j = σ (s + 4) j
theorem zT.refl {s : Int} {σ : Kmem} : zT s σ σ := ⟨fun _ _ _ _ _ => rfl, fun _ _ => ⟨rfl, rfl, rfl⟩⟩
theorem zT.trans {s : Int} {t u v : Kmem} (hs : isS s) (h : zT s t u) (g : zT s u v) : zT s t v := by
  have f := isS_f hs
  have e : u s = v s := g.1 s (by omega) (by omega) (by omega) (by omega)
  refine ⟨fun x a b c d => (h.1 x a b c d).trans (g.1 x a b c d), fun j hj => ?_⟩
  have p := h.2 j (by rw [e]; exact hj)
  have q := g.2 j hj
  exact ⟨p.1.trans q.1, p.2.1.trans q.2.1, p.2.2.trans q.2.2⟩
theorem zT_W {s p : Int} {t σ : Kmem} (hs : isS s) (h : zW s p t σ) (hp : p = 3 ∨ p = 4) : zT s t σ := by
  have f := isS_f hs
  refine ⟨fun x a b c d => h.1 x a (by omega), fun j hj => ?_⟩
  have q := h.2 j hj
  rcases hp with e | e <;> subst e
  · exact ⟨by rw [h.1 _ (by omega) (by omega)], q, by rw [h.1 _ (by omega) (by omega)]⟩
  · exact ⟨by rw [h.1 _ (by omega) (by omega)], by rw [h.1 _ (by omega) (by omega)], q⟩
theorem zT_S {s : Int} {J : Int → Prop} {t σ : Kmem} (hs : isS s) (h : kS J t σ) : zT s t σ := by
  have f := isS_f hs
  exact ⟨fun x a _ _ _ => h.1 x a, fun j _ => ⟨by rw [h.1 _ (by omega)], by rw [h.1 _ (by omega)], by rw [h.1 _ (by omega)]⟩⟩
theorem zT_up {s y : Int} {σ : Kmem} : zT s (kup σ (s + 2) (σ s 2) y) σ := ⟨fun x _ b _ _ => kup_o b, fun j hj => ⟨kup_j hj, by rw [kup_o (by omega)], by rw [kup_o (by omega)]⟩⟩
theorem nmZ_T {s c : Int} {t σ τ : Kmem} (hs : isS s) (hc : isC c) (k : sk0 τ) (f : ∀ x, x ≠ 3 → x ≠ s + 2 → x ≠ s + 3 → x ≠ s + 4 → t x = σ x) (far : c + 26 ≤ s ∨ s + 7 ≤ c) (h : nmZ σ c τ) : nmZ t c τ := by
  have fs := isS_f hs
  have fc : c ≠ 3 ∧ 5 ≤ c := by rcases hc with e | e | e | e | e <;> subst e <;> decide
  have e : ∀ x, c ≤ x → x < c + 26 → t x = σ x := fun x a b => f x (by omega) (by omega) (by omega) (by omega)
  obtain ⟨⟨a1, a2⟩, b1, b2⟩ := h
  refine ⟨⟨by rw [e c (by omega) (by omega)]; exact a1, fun i p q => ?_⟩, by rw [e c (by omega) (by omega)]; exact b1, fun i p q => ?_⟩
  · rw [e _ (by omega) (by omega)]; exact a2 i p q
  · rw [e _ (by omega) (by omega)]; exact b2 i p q
theorem nmZ_u {σ τ u : Kmem} {c : Int} (h : nmZ σ c τ) (e2 : u 2 = τ 2) (k : u 1 2 = τ 1 2 ∧ u 1 3 = τ 1 3) : nmZ σ c u := by
  unfold nmZ at *
  rw [e2, k.1, k.2]; exact h
