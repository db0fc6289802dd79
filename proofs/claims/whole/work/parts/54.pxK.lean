theorem kabs_neg {a b : Int} : kabs (a - b) = kabs (b - a) := by unfold kabs; split <;> split <;> omega
/-- the class's words for the field that draws the tenant -/
def sDec (a : Int × Int × Int) : Int × Int := if a.1 = 1000000 then (-1, 16) else (a.2.2 * 9 + a.2.1, a.1)
theorem sDec_r {v : Int → Int} {t : Int} {a : Int × Int × Int} (w : wf v) (ht : 0 ≤ t ∧ t < v 4) (h : aOk v t a) : (-1 ≤ (sDec a).1 ∧ (sDec a).1 ≤ 63) ∧ 0 ≤ (sDec a).2 ∧ (sDec a).2 ≤ 1000000 := by
  have w1 := wf_h w
  unfold sDec
  by_cases q : a.1 = 1000000
  · rw [if_pos q]; exact ⟨⟨by show (-1 : Int) ≤ -1; omega, by show (-1 : Int) ≤ 63; omega⟩, by show (0 : Int) ≤ 16; omega, by show (16 : Int) ≤ 1000000; omega⟩
  · rw [if_neg q]
    have := h.2 q
    have := h.1
    exact ⟨⟨by show (-1 : Int) ≤ a.2.2 * 9 + a.2.1; omega, by show a.2.2 * 9 + a.2.1 ≤ 63; omega⟩, by show 0 ≤ a.1; omega, by show a.1 ≤ 1000000; omega⟩
theorem P_X8_nearestOf {G : Kg} {σ : Kmem} {c t : Int} {v : Int → Int} (hc : isC c) (ha : kIsX (c + 20 + t) 9) (p : (wf v ∧ kco σ c v ∧ σ 58 0 = c) ∧ (0 ≤ t ∧ t < v 4) ∧ ∀ x y, sFld v x y → σ 63 (y * 9 + x) = sOwn v x y (v 7 % 12)) :
    Run G WX M_X8_nearestOf 2 0 0 [vA G 58, vA G (c + 20 + t)] σ (fun x s => x = (sDec (sNext v t (v 1).toNat)).1 ∧ s = σ) := by
  obtain ⟨⟨w, kk, s0⟩, ht, ho⟩ := p
  have w1 := wf_h w
  have k1 := kco_h kk
  have kt := kk.2.2.2.2 t ht.1 ht.2
  have wt := w.2.2.2.2 t ht.1 ht.2
  refine S_X8_nearestOf ha hc ?_
  refine kloop (E := fun r z => E_X8_nearestOf_8 G (c + 20 + t) z.1 z.2 r σ (fun x s => x = (sDec (sNext v t (v 1).toNat)).1 ∧ s = σ)) (fun r => sDec (sNext v t r)) (v 1).toNat (fun r hr ih => S_X8_nearestOf_8 ha hc ?_)
  have ok := sNext_ok (t := t) w ht r (by omega)
  refine ⟨s0, by omega, by omega, fun q => ⟨by rw [show r = (v 1).toNat by omega], rfl⟩, fun q => ?_⟩
  have ih := ih (by omega)
  refine kloop (E := fun x z => E_X8_nearestOf_23 G (c + 20 + t) z.1 z.2 r x σ (fun x s => x = (sDec (sNext v t (v 1).toNat)).1 ∧ s = σ)) (fun x => sDec (kfor (fun c a => kif (sOwn v c r (v 7 % 12) = v (120 + 5 * t + 2) ∧ sDist v t c r < a.1) (sDist v t c r, c, (r : Int)) a) x (sNext v t r))) (v 0).toNat (fun x hx jh => S_X8_nearestOf_23 ha hc ?_)
  have ok2 := sNextC_ok (r := r) w ht (by omega) ok x (by omega)
  have dr := sDec_r w ht ok2
  refine ⟨s0, by omega, by omega, fun q2 => by rw [show x = (v 0).toNat by omega]; exact ih, fun q2 => ?_⟩
  have jh := jh (by omega)
  rw [kfor] at jh
  generalize hA : kfor (fun c a => kif (sOwn v c r (v 7 % 12) = v (120 + 5 * t + 2) ∧ sDist v t c r < a.1) (sDist v t c r, c, (r : Int)) a) x (sNext v t r) = A at *
  have ox := ho x r ⟨⟨by omega, by omega⟩, by omega, by omega⟩
  have or' := sOwn_r (v := v) (c := x) (r := r) (h := v 7 % 12) w
  have d1 := kabs_u (a := v (120 + 5 * t) - x) (b := 8) (by omega)
  have d2 := kabs_u (a := v (120 + 5 * t + 1) - r) (b := 6) (by omega)
  have d3 := kabs_r (a := v (120 + 5 * t) - x)
  have d4 := kabs_r (a := v (120 + 5 * t + 1) - r)
  rw [ox, kt.1.1, kt.1.2, kt.2.1, kabs_neg (a := (x : Int)), kabs_neg (a := (r : Int))]
  refine ⟨by omega, by omega, by omega, fun h => ?_, fun h => ⟨by omega, by omega, by omega, by omega, fun h2 => ?_, fun h2 => ⟨by omega, by omega, ?_⟩⟩⟩
  · rw [kif_f (fun y => h y.1)] at jh; exact jh
  · rw [kif_f (fun y => ?_)] at jh
    · exact jh
    · have y2 := y.2
      unfold sDec at h2
      by_cases q3 : A.1 = 1000000
      · rw [if_pos q3] at h2; have : (16 : Int) ≤ _ := h2; omega
      · rw [if_neg q3] at h2; exact Int.not_lt.mpr h2 y2
  · have lt : sDist v t x r < A.1 := by
      unfold sDec at h2
      by_cases q3 : A.1 = 1000000
      · unfold sDist; omega
      · rw [if_neg q3] at h2; exact h2
    rw [kif_t ⟨h, lt⟩] at jh
    have e : sDec (sDist v t x r, (x : Int), (r : Int)) = ((r : Int) * 9 + x, sDist v t x r) := by
      unfold sDec; rw [if_neg (by show ¬ sDist v t x r = 1000000; unfold sDist; omega)]
    rw [e] at jh; exact jh
