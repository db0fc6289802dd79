abbrev ctyC (c x : Int) : Prop := c ≤ x ∧ x < c + 26
theorem isC_dis {c d : Int} (hc : isC c) (hd : isC d) (h : c ≠ d) : c + 26 ≤ d ∨ d + 26 ≤ c := by
  rcases hc with rfl | rfl | rfl | rfl | rfl <;> rcases hd with rfl | rfl | rfl | rfl | rfl <;> omega
theorem kIsX_kite {c i : Int} (h : isC c) (hi : 0 ≤ i ∧ i < 6) : kIsX (c + 6 + i) 3 := by
  have q : ∀ k : Fin 6, kIsX (5 + 6 + (k.val : Int)) 3 ∧ kIsX (31 + 6 + (k.val : Int)) 3 ∧ kIsX (106 + 6 + (k.val : Int)) 3 ∧ kIsX (139 + 6 + (k.val : Int)) 3 ∧ kIsX (172 + 6 + (k.val : Int)) 3 := by unfold kIsX; decide +kernel
  have := q ⟨i.toNat, by omega⟩
  rw [show (((⟨i.toNat, by omega⟩ : Fin 6).val : Nat) : Int) = i from by show ((i.toNat : Nat) : Int) = i; omega] at this
  rcases h with rfl | rfl | rfl | rfl | rfl
  · exact this.1
  · exact this.2.1
  · exact this.2.2.1
  · exact this.2.2.2.1
  · exact this.2.2.2.2
/-- n things of m fields, from place o on, were copied -/
def cpd (s σ : Kmem) (c d o : Int) (m n : Int) : Prop := ∀ j, 0 ≤ j → j < n → ∀ i, 0 ≤ i → i < m → s (c + o + j) i = σ (d + o + j) i
theorem P_X0_copy {G : Kg} {σ : Kmem} {c d : Int} {v : Int → Int} (hc : isC c) (hd : isC d) (p : c ≠ d ∧ wf v ∧ kco σ d v) : Run G WX M_X0_copy 1 0 0 [vA G c, vA G d] σ (fun x s => x = 0 ∧ kfm (ctyC c) s σ ∧ kco s c v ∧ cpd s σ c d 6 10 (v 2) ∧ cpd s σ c d 12 5 (v 3) ∧ cpd s σ c d 20 6 (v 4)) := by
  obtain ⟨hne, w, k⟩ := p
  have dis := isC_dis hc hd hne
  have k1 := kco_h k
  have w1 := wf_h w
  have h : d ≠ c := fun e => hne e.symm
  refine S_X0_copy hc hd (fun s1 e1 s3 e3 s5 e5 s7 e7 s9 e9 s11 e11 s13 e13 s15 e15 => ⟨by omega, fun s18 e18 => ⟨by omega, fun s21 e21 => ?_⟩⟩)
  have I := cp_step h (cp_step h (cp_step h (cp_step h (cp_step h (cp_step h (cp_step h (cp_step h cp_0 e1) e3) e5) e7) e9) e11) e13) e15
  clear e1 e3 e5 e7 e9 e11 e13 e15
  have f18 : kfm (fun x => x = c + 1) s18 s15 := by
    intro x hx; rw [e18]; funext j; exact if_neg (fun q => hx q.1)
  have f21 : kfm (fun x => x = c + 2) s21 s18 := by
    intro x hx; rw [e21]; funext j; exact if_neg (fun q => hx q.1)
  have f0 : kfm (fun x => c ≤ x ∧ x < c + 3) s21 σ := (f21.wide (fun x q => by omega)).trans ((f18.wide (fun x q => by omega)).trans (I.1.wide (fun x q => by omega)))
  have c0 : s21 c = s15 c := (f21 c (by omega)).trans (f18 c (by omega))
  have c1 : ∀ j, 0 ≤ j → j < 12 → s21 (c + 1) j = σ (d + 1) j := fun j a b => by
    rw [f21 (c + 1) (by omega), e18]
    show (if c + 1 = c + 1 ∧ 0 ≤ j ∧ j < 0 + 12 then s15 (d + 1) (0 + (j - 0)) else s15 (c + 1) j) = _
    rw [if_pos (by omega), I.1 (d + 1) (by omega)]; congr 1; omega
  have c2 : ∀ j, 0 ≤ j → j < 12 → s21 (c + 2) j = σ (d + 2) j := fun j a b => by
    rw [e21]
    show (if c + 2 = c + 2 ∧ 0 ≤ j ∧ j < 0 + 12 then s18 (d + 2) (0 + (j - 0)) else s18 (c + 2) j) = _
    rw [if_pos (by omega), f18 (d + 2) (by omega), I.1 (d + 2) (by omega)]; congr 1; omega
  have r5 : s21 c 5 = v 2 := by rw [c0, I.2 5 (by omega) (by omega), k1.2.2.1]
  have r6 : s21 c 6 = v 3 := by rw [c0, I.2 6 (by omega) (by omega), k1.2.2.2.1]
  have r7 : s21 c 7 = v 4 := by rw [c0, I.2 7 (by omega) (by omega), k1.2.2.2.2]
  clear e18 e21 f18 f21
  refine kloopP (E := fun i τ => E_X0_copy_96 G c d i τ _) (fun i τ => kfm (fun x => c + 6 ≤ x ∧ x < c + 6 + i) τ s21 ∧ cpd τ σ c d 6 10 i) (v 2).toNat (fun i τ hi hI ih => S_X0_copy_96 hc hd ?_) ⟨kfm.refl, fun j a b => by omega⟩
  obtain ⟨f1, p1⟩ := hI
  have q5 : τ c 5 = v 2 := by rw [f1 c (by omega)]; exact r5
  refine ⟨by omega, by omega, fun q => ?_, fun q => ⟨by omega, by omega, ?_⟩⟩
  rotate_left
  · have kd := k.2.2.1 i (by omega) (by omega)
    have wd := w.2.2.1 i (by omega) (by omega)
    have ed : ∀ j, τ (d + 6 + i) j = σ (d + 6 + i) j := fun j => by rw [f1 (d + 6 + i) (by omega), f0 (d + 6 + i) (by omega)]
    refine Run.mono (P_X3_copy (kIsX_kite hc ⟨by omega, by omega⟩) (kIsX_kite hd ⟨by omega, by omega⟩) ⟨by omega, by rw [ed]; omega⟩) (fun x s z => ih (by omega) s ⟨?_, ?_⟩)
    · exact (z.2.1.wide (fun x q => by omega)).trans (f1.wide (fun x q => by omega))
    · intro j a b n m1 m2
      by_cases e : j = i
      · rw [e, z.2.2 n m1 m2, ed]
      · rw [z.2.1 (c + 6 + j) (by omega)]; exact p1 j a (by omega) n m1 m2
  have ei : (i : Int) = v 2 := by omega
  rw [ei] at f1 p1
  clear ih hi q
  refine kloopP (E := fun i u => E_X0_copy_127 G c d i u _) (fun i u => kfm (fun x => c + 12 ≤ x ∧ x < c + 12 + i) u τ ∧ cpd u σ c d 12 5 i) (v 3).toNat (fun i u hi hI ih => S_X0_copy_127 hc hd ?_) ⟨kfm.refl, fun j a b => by omega⟩
  obtain ⟨f2, p2⟩ := hI
  have q6 : u c 6 = v 3 := by rw [f2 c (by omega), f1 c (by omega)]; exact r6
  refine ⟨by omega, by omega, fun q => ?_, fun q => ⟨by omega, by omega, ?_⟩⟩
  rotate_left
  · have ed : ∀ j, u (d + 12 + i) j = σ (d + 12 + i) j := fun j => by rw [f2 (d + 12 + i) (by omega), f1 (d + 12 + i) (by omega), f0 (d + 12 + i) (by omega)]
    refine Run.mono (P_X2_copy (kIsX_crop hc ⟨by omega, by omega⟩) (kIsX_crop hd ⟨by omega, by omega⟩) (by omega)) (fun x s z => ih (by omega) s ⟨?_, ?_⟩)
    · exact (z.2.1.wide (fun x q => by omega)).trans (f2.wide (fun x q => by omega))
    · intro j a b n m1 m2
      by_cases e : j = i
      · rw [e, z.2.2 n m1 m2, ed]
      · rw [z.2.1 (c + 12 + j) (by omega)]; exact p2 j a (by omega) n m1 m2
  have ei : (i : Int) = v 3 := by omega
  rw [ei] at f2 p2
  clear ih hi q
  refine kloopP (E := fun i y => E_X0_copy_158 G c d i y _) (fun i y => kfm (fun x => c + 20 ≤ x ∧ x < c + 20 + i) y u ∧ cpd y σ c d 20 6 i) (v 4).toNat (fun i y hi hI ih => S_X0_copy_158 hc hd ?_) ⟨kfm.refl, fun j a b => by omega⟩
  obtain ⟨f3, p3⟩ := hI
  have q7 : y c 7 = v 4 := by rw [f3 c (by omega), f2 c (by omega), f1 c (by omega)]; exact r7
  refine ⟨by omega, by omega, fun q => ?_, fun q => ⟨by omega, by omega, ?_⟩⟩
  rotate_left
  · have ed : ∀ j, y (d + 20 + i) j = σ (d + 20 + i) j := fun j => by rw [f3 (d + 20 + i) (by omega), f2 (d + 20 + i) (by omega), f1 (d + 20 + i) (by omega), f0 (d + 20 + i) (by omega)]
    refine Run.mono (P_X9_copy (kIsX_ten hc ⟨by omega, by omega⟩) (kIsX_ten hd ⟨by omega, by omega⟩) (by omega)) (fun x s z => ih (by omega) s ⟨?_, ?_⟩)
    · exact (z.2.1.wide (fun x q => by omega)).trans (f3.wide (fun x q => by omega))
    · intro j a b n m1 m2
      by_cases e : j = i
      · rw [e, z.2.2 n m1 m2, ed]
      · rw [z.2.1 (c + 20 + j) (by omega)]; exact p3 j a (by omega) n m1 m2
  have ei : (i : Int) = v 4 := by omega
  rw [ei] at f3 p3
  have pa : cpd y σ c d 6 10 (v 2) := fun j a b n m1 m2 => by rw [f3 (c + 6 + j) (by omega), f2 (c + 6 + j) (by omega)]; exact p1 j a b n m1 m2
  have pb : cpd y σ c d 12 5 (v 3) := fun j a b n m1 m2 => by rw [f3 (c + 12 + j) (by omega)]; exact p2 j a b n m1 m2
  have y0 : ∀ n, 0 ≤ n → n < 8 → y c n = σ d n := fun n a b => by rw [f3 c (by omega), f2 c (by omega), f1 c (by omega), c0]; exact I.2 n a (by omega)
  refine ⟨rfl, (f3.wide (fun x q => by omega)).trans ((f2.wide (fun x q => by omega)).trans ((f1.wide (fun x q => by omega)).trans (f0.wide (fun x q => by omega)))), ⟨?_, ?_, ?_, ?_, ?_⟩, pa, pb, p3⟩
  · unfold kcoH
    simp (disch := omega) only [y0]
    exact k1
  · intro h a b
    rw [f3 (c + 1) (by omega), f2 (c + 1) (by omega), f1 (c + 1) (by omega), f3 (c + 2) (by omega), f2 (c + 2) (by omega), f1 (c + 2) (by omega), c1 h a b, c2 h a b]
    exact k.2.1 h a b
  · intro n a b
    have := pa n a b
    simp (disch := omega) only [this]
    exact k.2.2.1 n a b
  · intro n a b
    have := pb n a b
    simp (disch := omega) only [this]
    exact k.2.2.2.1 n a b
  · intro n a b
    have := p3 n a b
    simp (disch := omega) only [this]
    exact k.2.2.2.2 n a b
