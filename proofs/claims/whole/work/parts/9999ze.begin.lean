/-! THE START: the tables' words as a Kg, and the law from its entry -/
theorem cI_all : ∀ k, k < 13 → Cond.instantiable (kCn k) (knf k) ∈ kTbl := fun k h => match k, h with
  | 0, _ => cI_X0 | 1, _ => cI_X1 | 2, _ => cI_X2 | 3, _ => cI_X3 | 4, _ => cI_X4 | 5, _ => cI_X5 | 6, _ => cI_X6 | 7, _ => cI_X7 | 8, _ => cI_X8 | 9, _ => cI_X9 | 10, _ => cI_X10 | 11, _ => cI_X11 | 12, _ => cI_X12
theorem arr_obj {C : String} {s : State} (h : va_AO C s) : ∃ cA : ClassId, ArrOfT s cA (.object C) ∧ va_RA s cA (.object C) := by
  obtain ⟨comp, c, k, h1, h2, h3, h4, h5⟩ := Cond.arrayOver_spec h
  exact ⟨c, fun N z => ⟨(fun q h => by cases h), k, h3, comp, h4⟩, k, comp, h3, h4, h1, h5⟩
theorem arr_arr {t : FieldType} {s : State} (h : (Cond.arrayOver (.array t)).before #[] s = true) : ∃ cA : ClassId, ArrOfT s cA (.array t) ∧ va_RA s cA (.array t) := by
  obtain ⟨comp, c, k, h1, h2, h3, h4, h5⟩ := arrayOverA_spec h
  exact ⟨c, fun N z => ⟨(fun q h => by cases h), k, h3, comp, h4⟩, h5⟩
theorem start_N {args : Array Value} {s : State} (hts : ∀ w ∈ lw_tbl, w.before args s = true) : ∀ w ∈ kNest, va_Nw w s := by
  intro w hw
  have h1 := hts w (List.mem_filter.mp hw).1
  have h2 := (List.mem_filter.mp hw).2
  cases w <;> first | (cases h2; done) | exact va_Nw.of rfl h1 | exact h1
theorem start_A {args : Array Value} {s : State} (hts : ∀ w ∈ lw_tbl, w.before args s = true) : ∀ i, i < 11 → ∃ cA : ClassId, ArrOfT s cA (kaTy i) ∧ va_RA s cA (kaTy i) := by
  have hN := start_N hts
  have hp : ∀ {ty : FieldType}, (Cond.arrayClass ty) ∈ kTbl → (ty = .int ∨ ty = .long ∨ ty = .byte ∨ ty = .boolean) → ∃ cA : ClassId, ArrOfT s cA ty ∧ va_RA s cA ty := by
    intro ty hw ht
    obtain ⟨cA, kA, comp, h1, h2, h3⟩ := Cond.arrayClass_spec (hts _ (kTbl_good _ hw).1)
    refine ⟨cA, fun N z => ⟨(fun q h => by cases h), kA, h2, comp, h3⟩, ?_⟩
    rcases ht with rfl | rfl | rfl | rfl <;> exact h1
  intro i hi
  match i, hi with
  | 0, _ => exact hp aC_int (Or.inl rfl)
  | 1, _ => exact hp aC_long (Or.inr (Or.inl rfl))
  | 2, _ => exact hp aC_byte (Or.inr (Or.inr (Or.inl rfl)))
  | 3, _ => exact hp aC_boolean (Or.inr (Or.inr (Or.inr rfl)))
  | 4, _ => exact arr_obj (hN _ aO_X10)
  | 5, _ => exact arr_obj (hN _ aO_X0)
  | 6, _ => exact arr_obj (hN _ aO_X7)
  | 7, _ => exact arr_obj (hN _ aO_X3)
  | 8, _ => exact arr_obj (hN _ aO_X2)
  | 9, _ => exact arr_obj (hN _ aO_X9)
  | 10, _ => exact arr_arr (hN _ aO_I)
theorem start_K {args : Array Value} {s : State} (hts : ∀ w ∈ lw_tbl, w.before args s = true) : ∃ (D : va_G) (cA : Nat → ClassId), ∀ G : Kg, G.2.2.1 = D → G.2.2.2.1 = cA → kTb G s := by
  have h1 : ∀ k : Nat, ∃ q : ClassId × (Nat → Nat), k < 13 → u_Kn s (kCn k) (kCT k) (knf k) q.1 q.2 := fun k => by
    by_cases hk : k < 13
    · obtain ⟨c, i, h⟩ := u_known (ws := lw_tbl) hts (fun w hw => (kTbl_cls0 k hk w hw).1) (hts _ (kTbl_good _ (cI_all k hk)).1)
      exact ⟨(c, i), fun _ => h⟩
    · exact ⟨(0, fun _ => 0), fun z => absurd z hk⟩
  have h2 : ∀ i : Nat, ∃ c : ClassId, ∀ k : Nat, i = 20 + k → k < 11 → ArrOfT s c (kaTy k) ∧ va_RA s c (kaTy k) := fun i => by
    by_cases hi : i - 20 < 11
    · obtain ⟨c, h⟩ := start_A hts (i - 20) hi
      exact ⟨c, fun k e _ => by rw [show k = i - 20 by omega]; exact h⟩
    · exact ⟨0, fun k e y => absurd (show i - 20 < 11 by omega) hi⟩
  refine ⟨(fun k => (Classical.choose (h1 k)).1, fun k => (Classical.choose (h1 k)).2), fun i => Classical.choose (h2 i), fun G e1 e2 => ⟨⟨fun c q hq => ?_, fun k q hq => ?_⟩, start_N hts⟩⟩
  · have hc : c < 13 := (List.getElem?_eq_some_iff.mp hq).1
    have e := hq.symm.trans (kCl_at hc)
    cases Option.some.inj e
    rw [e1]
    exact Classical.choose_spec (h1 c) hc
  · have hk : k < 11 := by
      have := (List.getElem?_eq_some_iff.mp hq).1
      simpa [kTys] using this
    have e := hq.symm.trans (kTys_at hk)
    cases Option.some.inj e
    rw [e2]
    exact Classical.choose_spec (h2 (20 + k)) k rfl hk
