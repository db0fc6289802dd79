/-! what the sky shows does not hang on purses, walks, crops and tenants -/
def kgeo (u v : Int → Int) : Prop := (∀ j, 0 ≤ j → j < 34 → j ≠ 7 → u j = v j) ∧ ∀ k, 0 ≤ k → k < v 2 → u (34 + 9 * k) = v (34 + 9 * k) ∧ ∀ j, 1 ≤ j → j < 9 → j ≠ 5 → j ≠ 6 → u (34 + 9 * k + j) = v (34 + 9 * k + j)
theorem kgeo.refl {u : Int → Int} : kgeo u u := ⟨fun _ _ _ _ => rfl, fun _ _ _ => ⟨rfl, fun _ _ _ _ _ => rfl⟩⟩
theorem kgeo.trans {u v w : Int → Int} (h : kgeo u v) (g : kgeo v w) : kgeo u w := by
  have e := g.1 2 (by omega) (by omega) (by omega)
  exact ⟨fun j a b c => (h.1 j a b c).trans (g.1 j a b c), fun k a b => ⟨(h.2 k a (by omega)).1.trans (g.2 k a b).1, fun j a1 a2 a3 a4 => ((h.2 k a (by omega)).2 j a1 a2 a3 a4).trans ((g.2 k a b).2 j a1 a2 a3 a4)⟩⟩
theorem kgeo_shd {u v : Int → Int} {k c r h : Int} (g : kgeo u v) (hk : 0 ≤ k ∧ k < v 2) (hh : sHr h) : (sUS u c r h k ↔ sUS v c r h k) ∧ (sBorne u k h ↔ sBorne v k h) ∧ sCol u k h = sCol v k h ∧ sRow u k h = sRow v k h ∧ sSz u k h = sSz v k h := by
  obtain ⟨g1, g2⟩ := g
  obtain ⟨hh1, hh2⟩ := hh
  obtain ⟨e0, ej⟩ := g2 k hk.1 hk.2
  have e1 := ej 1 (by omega) (by omega) (by omega) (by omega)
  have e2 := ej 2 (by omega) (by omega) (by omega) (by omega)
  have e3 := ej 3 (by omega) (by omega) (by omega) (by omega)
  have e4 := ej 4 (by omega) (by omega) (by omega) (by omega)
  have e7 := ej 7 (by omega) (by omega) (by omega) (by omega)
  have e8 := ej 8 (by omega) (by omega) (by omega) (by omega)
  have w0 := g1 (10 + 2 * h) (by omega) (by omega) (by omega)
  have w1 := g1 (10 + 2 * h + 1) (by omega) (by omega) (by omega)
  have n5 := g1 5 (by omega) (by omega) (by omega)
  have b : sBorne u k h ↔ sBorne v k h := by unfold sBorne; rw [e4, w1]
  have f : sFar u k h = sFar v k h := by unfold sFar; rw [e3, w1]
  have t : sTrn u k h = sTrn v k h := by unfold sTrn; rw [e7, w0]
  have C : sCol u k h = sCol v k h := by unfold sCol; rw [e0, f, t]
  have R : sRow u k h = sRow v k h := by unfold sRow; rw [e1, f, t]
  have S : sSz u k h = sSz v k h := by unfold sSz; rw [e2, n5]
  refine ⟨?_, b, C, R, S⟩
  unfold sUS sShd
  rw [e8, C, R, S, b]
theorem kgeo_shs {u v : Int → Int} {c r h : Int} (g : kgeo u v) (hh : sHr h) : sShs u c r h = sShs v c r h := by
  unfold sShs
  rw [g.1 2 (by omega) (by omega) (by omega)]
  exact kset_ext _ (fun k hk => (kgeo_shd g ⟨by omega, by omega⟩ hh).1)
theorem kgeo_best {u v : Int → Int} {s : Int} (g : kgeo u v) : ∀ n : Nat, (n : Int) ≤ v 2 → sBest u s n = sBest v s n
  | 0, _ => rfl
  | n + 1, hn => by
    have ih := kgeo_best (s := s) g n (by omega)
    show kif (sIn s n ∧ (sBest u s n = -1 ∨ u 6 = 1 ∧ u (34 + 9 * sBest u s n + 2) < u (34 + 9 * (n : Int) + 2))) (n : Int) (sBest u s n) = kif (sIn s n ∧ (sBest v s n = -1 ∨ v 6 = 1 ∧ v (34 + 9 * sBest v s n + 2) < v (34 + 9 * (n : Int) + 2))) (n : Int) (sBest v s n)
    rw [ih, g.1 6 (by omega) (by omega) (by omega), (g.2 n (by omega) (by omega)).2 2 (by omega) (by omega) (by omega) (by omega)]
    have br := sBest_r (v := v) (s := s) n
    by_cases e : sBest v s n = -1
    · rw [e]
      by_cases z : sIn s n
      · rw [kif_t ⟨z, Or.inl rfl⟩, kif_t ⟨z, Or.inl rfl⟩]
      · rw [kif_f (fun y => z y.1), kif_f (fun y => z y.1)]
    · rw [(g.2 (sBest v s n) (by omega) (by omega)).2 2 (by omega) (by omega) (by omega) (by omega)]
theorem kgeo_own {u v : Int → Int} {c r h : Int} (w : wf v) (g : kgeo u v) (hh : sHr h) : sOwn u c r h = sOwn v c r h := by
  have w1 := wf_h w
  unfold sOwn sOwnBy
  rw [kgeo_shs g hh, g.1 6 (by omega) (by omega) (by omega), g.1 2 (by omega) (by omega) (by omega), kgeo_best g _ (by omega)]
theorem kcnt_ext {p q : Int → Int → Prop} {W D : Nat} (h : ∀ c r, p c r ↔ q c r) : kcnt p W D = kcnt q W D := by
  have : p = q := by funext c r; exact propext (h c r)
  rw [this]
theorem kgeo_est {u v : Int → Int} {k h : Int} (w : wf v) (g : kgeo u v) (hh : sHr h) : sEst u k h = sEst v k h := by
  unfold sEst
  rw [g.1 0 (by omega) (by omega) (by omega), g.1 1 (by omega) (by omega) (by omega)]
  exact kcnt_ext (fun c r => by rw [kgeo_own w g hh])
theorem kgeo_far {v : Int → Int} {i x : Int} (h : 88 ≤ i) (hv : v 2 ≤ 6) : kgeo (ku v i x) v :=
  ⟨fun j a b c => ku_ne (by omega), fun k a b => ⟨ku_ne (by omega), fun j _ _ _ _ => ku_ne (by omega)⟩⟩
theorem kgeo_purse {v : Int → Int} {k x : Int} (hk : 0 ≤ k) : kgeo (ku v (34 + 9 * k + 5) x) v :=
  ⟨fun j a b c => ku_ne (by omega), fun k' a b => ⟨ku_ne (by omega), fun j _ _ _ _ => ku_ne (by omega)⟩⟩
theorem kgeo_walked {v : Int → Int} {k x : Int} (hk : 0 ≤ k) : kgeo (ku v (34 + 9 * k + 6) x) v :=
  ⟨fun j a b c => ku_ne (by omega), fun k' a b => ⟨ku_ne (by omega), fun j _ _ _ _ => ku_ne (by omega)⟩⟩
theorem kgeo_hour {v : Int → Int} {x : Int} : kgeo (ku v 7 x) v :=
  ⟨fun j a b c => ku_ne (by omega), fun k' a b => ⟨ku_ne (by omega), fun j _ _ _ _ => ku_ne (by omega)⟩⟩
