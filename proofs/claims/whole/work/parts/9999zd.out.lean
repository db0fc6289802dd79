/-! WHAT LIES OUTSIDE, out of what is given -/
def kGv : List Cond := flatC (Jvm.Cond.and given_1 narrow_1)
def kSp : List Nat := [374, 297, 305, 315, 324, 341, 360, 291, 125, 133, 141, 148, 333, 350, 366, 156, 425, 433, 441, 449, 457, 463, 380, 387, 395, 403, 410, 418, 472]
def kTm (i : Nat) : Term := .string (kStrD i).1 (kStrD i).2.1
def kVl (i : Nat) : Term := .field (kTm i) "java/lang/String" "value" "[B"
theorem kGv_s : ∀ i, i < 29 → (kGv[kSp.getD i 0]? = some (Cond.exactly (kTm i) "java/lang/String") ∧ kGv[kSp.getD i 0 + 1]? = some (Cond.eq (.field (kTm i) "java/lang/String" "coder" "B") (.int 0)) ∧ kGv[kSp.getD i 0 + 2]? = some (Cond.arrayOf (kVl i) .byte) ∧ kGv[kSp.getD i 0 + 3]? = some (Cond.eq (.length (kVl i)) (.int (Int32.ofNat (kStrD i).2.2.2.length)))) ∧ ∀ j, j < (kStrD i).2.2.2.length → kGv[kSp.getD i 0 + 4 + j]? = some (Cond.eq (.elem (kVl i) (.int (Int32.ofNat j))) (.int ((kStrD i).2.2.2.getD j 0))) := by decide +kernel
def kAp : List Nat := [32, 40, 10, 21]
def kStD (i : Nat) : String × List Int32 := kStA.getD i ("", [])
def kAm (i : Nat) : Term := .static "KiteLand" (kStD i).1 "[I"
theorem kGv_a : ∀ i, i < 4 → (kGv[kAp.getD i 0]? = some (Cond.arrayOf (kAm i) .int) ∧ kGv[kAp.getD i 0 + 1]? = some (Cond.eq (.length (kAm i)) (.int (Int32.ofNat (kStD i).2.length)))) ∧ ∀ j, j < (kStD i).2.length → kGv[kAp.getD i 0 + 2 + j]? = some (Cond.eq (.elem (kAm i) (.int (Int32.ofNat j))) (.int ((kStD i).2.getD j 0))) := by decide +kernel
theorem kGv_c : kGv[4]? = some (Cond.eq (.static "java/lang/String" "COMPACT_STRINGS" "Z") (.int 1)) ∧ kGv[5]? = some (Cond.isRef (.static "jdk/internal/util/Preconditions" "SIOOBE_FORMATTER" "Ljava/util/function/BiFunction;")) := by decide +kernel
theorem sR_0 : Cond.stringRef (kStrD 0).1 (kStrD 0).2.1 (kStrD 0).2.2.1 ∈ lw_tbl := kwt_4 _ (List.mem_of_getElem? (i := 151) rfl)
theorem sR_1 : Cond.stringRef (kStrD 1).1 (kStrD 1).2.1 (kStrD 1).2.2.1 ∈ lw_tbl := kwt_4 _ (List.mem_of_getElem? (i := 117) rfl)
theorem sR_2 : Cond.stringRef (kStrD 2).1 (kStrD 2).2.1 (kStrD 2).2.2.1 ∈ lw_tbl := kwt_4 _ (List.mem_of_getElem? (i := 122) rfl)
theorem sR_3 : Cond.stringRef (kStrD 3).1 (kStrD 3).2.1 (kStrD 3).2.2.1 ∈ lw_tbl := kwt_4 _ (List.mem_of_getElem? (i := 123) rfl)
theorem sR_4 : Cond.stringRef (kStrD 4).1 (kStrD 4).2.1 (kStrD 4).2.2.1 ∈ lw_tbl := kwt_4 _ (List.mem_of_getElem? (i := 124) rfl)
theorem sR_5 : Cond.stringRef (kStrD 5).1 (kStrD 5).2.1 (kStrD 5).2.2.1 ∈ lw_tbl := kwt_4 _ (List.mem_of_getElem? (i := 130) rfl)
theorem sR_6 : Cond.stringRef (kStrD 6).1 (kStrD 6).2.1 (kStrD 6).2.2.1 ∈ lw_tbl := kwt_4 _ (List.mem_of_getElem? (i := 140) rfl)
theorem sR_7 : Cond.stringRef (kStrD 7).1 (kStrD 7).2.1 (kStrD 7).2.2.1 ∈ lw_tbl := kwt_4 _ (List.mem_of_getElem? (i := 107) rfl)
theorem sR_8 : Cond.stringRef (kStrD 8).1 (kStrD 8).2.1 (kStrD 8).2.2.1 ∈ lw_tbl := kwt_3 _ (List.mem_of_getElem? (i := 236) rfl)
theorem sR_9 : Cond.stringRef (kStrD 9).1 (kStrD 9).2.1 (kStrD 9).2.2.1 ∈ lw_tbl := kwt_4 _ (List.mem_of_getElem? (i := 62) rfl)
theorem sR_10 : Cond.stringRef (kStrD 10).1 (kStrD 10).2.1 (kStrD 10).2.2.1 ∈ lw_tbl := kwt_4 _ (List.mem_of_getElem? (i := 68) rfl)
theorem sR_11 : Cond.stringRef (kStrD 11).1 (kStrD 11).2.1 (kStrD 11).2.2.1 ∈ lw_tbl := kwt_4 _ (List.mem_of_getElem? (i := 73) rfl)
theorem sR_12 : Cond.stringRef (kStrD 12).1 (kStrD 12).2.1 (kStrD 12).2.2.1 ∈ lw_tbl := kwt_4 _ (List.mem_of_getElem? (i := 125) rfl)
theorem sR_13 : Cond.stringRef (kStrD 13).1 (kStrD 13).2.1 (kStrD 13).2.2.1 ∈ lw_tbl := kwt_4 _ (List.mem_of_getElem? (i := 135) rfl)
theorem sR_14 : Cond.stringRef (kStrD 14).1 (kStrD 14).2.1 (kStrD 14).2.2.1 ∈ lw_tbl := kwt_4 _ (List.mem_of_getElem? (i := 146) rfl)
theorem sR_15 : Cond.stringRef (kStrD 15).1 (kStrD 15).2.1 (kStrD 15).2.2.1 ∈ lw_tbl := kwt_4 _ (List.mem_of_getElem? (i := 90) rfl)
theorem sR_16 : Cond.stringRef (kStrD 16).1 (kStrD 16).2.1 (kStrD 16).2.2.1 ∈ lw_tbl := kwt_4 _ (List.mem_of_getElem? (i := 216) rfl)
theorem sR_17 : Cond.stringRef (kStrD 17).1 (kStrD 17).2.1 (kStrD 17).2.2.1 ∈ lw_tbl := kwt_4 _ (List.mem_of_getElem? (i := 217) rfl)
theorem sR_18 : Cond.stringRef (kStrD 18).1 (kStrD 18).2.1 (kStrD 18).2.2.1 ∈ lw_tbl := kwt_4 _ (List.mem_of_getElem? (i := 218) rfl)
theorem sR_19 : Cond.stringRef (kStrD 19).1 (kStrD 19).2.1 (kStrD 19).2.2.1 ∈ lw_tbl := kwt_5 _ (List.mem_of_getElem? (i := 2) rfl)
theorem sR_20 : Cond.stringRef (kStrD 20).1 (kStrD 20).2.1 (kStrD 20).2.2.1 ∈ lw_tbl := kwt_5 _ (List.mem_of_getElem? (i := 4) rfl)
theorem sR_21 : Cond.stringRef (kStrD 21).1 (kStrD 21).2.1 (kStrD 21).2.2.1 ∈ lw_tbl := kwt_5 _ (List.mem_of_getElem? (i := 5) rfl)
theorem sR_22 : Cond.stringRef (kStrD 22).1 (kStrD 22).2.1 (kStrD 22).2.2.1 ∈ lw_tbl := kwt_4 _ (List.mem_of_getElem? (i := 195) rfl)
theorem sR_23 : Cond.stringRef (kStrD 23).1 (kStrD 23).2.1 (kStrD 23).2.2.1 ∈ lw_tbl := kwt_4 _ (List.mem_of_getElem? (i := 211) rfl)
theorem sR_24 : Cond.stringRef (kStrD 24).1 (kStrD 24).2.1 (kStrD 24).2.2.1 ∈ lw_tbl := kwt_4 _ (List.mem_of_getElem? (i := 212) rfl)
theorem sR_25 : Cond.stringRef (kStrD 25).1 (kStrD 25).2.1 (kStrD 25).2.2.1 ∈ lw_tbl := kwt_4 _ (List.mem_of_getElem? (i := 213) rfl)
theorem sR_26 : Cond.stringRef (kStrD 26).1 (kStrD 26).2.1 (kStrD 26).2.2.1 ∈ lw_tbl := kwt_4 _ (List.mem_of_getElem? (i := 214) rfl)
theorem sR_27 : Cond.stringRef (kStrD 27).1 (kStrD 27).2.1 (kStrD 27).2.2.1 ∈ lw_tbl := kwt_4 _ (List.mem_of_getElem? (i := 215) rfl)
theorem sR_28 : Cond.stringRef (kStrD 28).1 (kStrD 28).2.1 (kStrD 28).2.2.1 ∈ lw_tbl := kwt_8 _ (List.mem_of_getElem? (i := 66) rfl)
theorem sR_all : ∀ i, i < 29 → Cond.stringRef (kStrD i).1 (kStrD i).2.1 (kStrD i).2.2.1 ∈ lw_tbl := fun i h => match i, h with
  | 0, _ => sR_0
  | 1, _ => sR_1
  | 2, _ => sR_2
  | 3, _ => sR_3
  | 4, _ => sR_4
  | 5, _ => sR_5
  | 6, _ => sR_6
  | 7, _ => sR_7
  | 8, _ => sR_8
  | 9, _ => sR_9
  | 10, _ => sR_10
  | 11, _ => sR_11
  | 12, _ => sR_12
  | 13, _ => sR_13
  | 14, _ => sR_14
  | 15, _ => sR_15
  | 16, _ => sR_16
  | 17, _ => sR_17
  | 18, _ => sR_18
  | 19, _ => sR_19
  | 20, _ => sR_20
  | 21, _ => sR_21
  | 22, _ => sR_22
  | 23, _ => sR_23
  | 24, _ => sR_24
  | 25, _ => sR_25
  | 26, _ => sR_26
  | 27, _ => sR_27
  | 28, _ => sR_28
  | n + 29, h => absurd h (by omega)
theorem sA_0 : Cond.laysStatic "KiteLand" "STEP_ACROSS" "[I" ∈ lw_tbl := kwt_6 _ (List.mem_of_getElem? (i := 32) rfl)
theorem sA_1 : Cond.laysStatic "KiteLand" "STEP_DOWN" "[I" ∈ lw_tbl := kwt_6 _ (List.mem_of_getElem? (i := 34) rfl)
theorem sA_2 : Cond.laysStatic "KiteLand" "WIND_ACROSS" "[I" ∈ lw_tbl := kwt_5 _ (List.mem_of_getElem? (i := 43) rfl)
theorem sA_3 : Cond.laysStatic "KiteLand" "WIND_DOWN" "[I" ∈ lw_tbl := kwt_5 _ (List.mem_of_getElem? (i := 45) rfl)
theorem sA_all : ∀ i, i < 4 → Cond.laysStatic "KiteLand" (kStD i).1 "[I" ∈ lw_tbl := fun i h => match i, h with
  | 0, _ => sA_0
  | 1, _ => sA_1
  | 2, _ => sA_2
  | 3, _ => sA_3
  | n + 4, h => absurd h (by omega)
theorem sC_1 : Cond.laysStatic "java/lang/String" "COMPACT_STRINGS" "Z" ∈ lw_tbl := kwt_4 _ (List.mem_of_getElem? (i := 10) rfl)
theorem sC_2 : Cond.laysStatic "jdk/internal/util/Preconditions" "SIOOBE_FORMATTER" "Ljava/util/function/BiFunction;" ∈ lw_tbl := kwt_4 _ (List.mem_of_getElem? (i := 26) rfl)
theorem sI_1 : Cond.initialized "java/lang/String" ∈ lw_tbl := kwt_1 _ (List.mem_of_getElem? (i := 15) rfl)
theorem sI_2 : Cond.initialized "jdk/internal/util/Preconditions" ∈ lw_tbl := kwt_1 _ (List.mem_of_getElem? (i := 17) rfl)
theorem sI_3 : Cond.initialized "KiteLand" ∈ lw_tbl := kwt_1 _ (List.mem_of_getElem? (i := 1) rfl)
theorem kGv_in {c : Cond} {n : Nat} {args : Array Value} {s : State} (h : (Jvm.Cond.and given_1 narrow_1).before args s = true) (e : kGv[n]? = some c) : c.before args s = true := flat_of_before _ h c (List.mem_of_getElem? e)
/-- addresses for what lies outside -/
theorem out_str {args : Array Value} {s : State} {A : Nat → Prop} (h : (Jvm.Cond.and given_1 narrow_1).before args s = true) (hts : ∀ w ∈ lw_tbl, w.before args s = true) (hA : ∀ a : Nat, a < s.heap.size → ¬ A a) : ∀ i, i < 29 → ∃ q : Nat × Nat, vk_R (kStrD i).1 (kStrD i).2.1 (kStrD i).2.2.1 q.1 s ∧ va_O "java/lang/String" q.1 A s s.heap ∧ va_OF "java/lang/String" "coder" "B" (.int 0) q.1 A s s.heap ∧ va_OF "java/lang/String" "value" "[B" (.ref q.2) q.1 A s s.heap ∧ va_T .byte q.2 (kStrD i).2.2.2.length (fun j => .int ((kStrD i).2.2.2.getD j 0)) A s s.heap := by
  intro i hi
  obtain ⟨⟨f1, f2, f3, f4⟩, f5⟩ := kGv_s i hi
  have hl := (kStrs_len i hi).1
  obtain ⟨adK, adV, ⟨g, -⟩, ev⟩ := vk_Sof (args := args) (s := s) (N := 1) (tm := fun _ => kTm i) (len := [(kStrD i).2.2.2.length]) (byt := [(kStrD i).2.2.2]) (A := A) (fun k hk => by rw [show k = 0 by omega]; exact Nat.lt_of_lt_of_le hl (Nat.le_of_ble_eq_true rfl)) (fun k _ => kGv_in h f1) (fun k _ => kGv_in h f2) (fun k _ => kGv_in h f3) (fun k hk => by rw [show k = 0 by omega]; exact kGv_in h f4) (fun k hk j hj => by rw [show k = 0 by omega] at hj ⊢; exact kGv_in h (f5 j hj)) (fun a b ha hb n => absurd (show a = b by omega) n) hA
  obtain ⟨g1, g2, g3, g4⟩ := g 0 (by omega)
  exact ⟨(adK 0, adV 0), vk_R.of (A := args) (hts _ (sR_all i hi)) (ev 0 (by omega)), g1, g2, g3, g4⟩
theorem out_arr {args : Array Value} {s : State} {A : Nat → Prop} (h : (Jvm.Cond.and given_1 narrow_1).before args s = true) (hts : ∀ w ∈ lw_tbl, w.before args s = true) (hA : ∀ a : Nat, a < s.heap.size → ¬ A a) : ∀ i, i < 4 → ∃ t : Nat, va_Z "KiteLand" (kStD i).1 "[I" (.ref t) A s s.heap ∧ va_T .int t (kStD i).2.length (fun j => .int ((kStD i).2.getD j 0)) A s s.heap := by
  intro i hi
  obtain ⟨⟨f1, f2⟩, f3⟩ := kGv_a i hi
  have hl : (kStD i).2.length < 2 ^ 31 := by
    have : ∀ i, i < 4 → (kStD i).2.length < 100 := by decide
    exact Nat.lt_of_lt_of_le (this i hi) (Nat.le_of_ble_eq_true rfl)
  obtain ⟨t, e, T⟩ := va_Tof (args := args) (s := s) (tm := kAm i) (ty := .int) (N := (kStD i).2.length) (f := fun j => .int ((kStD i).2.getD j 0)) (A := A) hl (kGv_in h f1) (va_eqt (kGv_in h f2)) (fun j hj => va_eqt (kGv_in h (f3 j hj))) hA
  exact ⟨t, va_Zof (hts _ (sA_all i hi)) (hts _ sI_3) e hA, T⟩
theorem out_com {args : Array Value} {s : State} {A : Nat → Prop} (h : (Jvm.Cond.and given_1 narrow_1).before args s = true) (hts : ∀ w ∈ lw_tbl, w.before args s = true) (hA : ∀ a : Nat, a < s.heap.size → ¬ A a) : va_Z "java/lang/String" "COMPACT_STRINGS" "Z" (.int 1) A s s.heap ∧ va_Zq "jdk/internal/util/Preconditions" "SIOOBE_FORMATTER" "Ljava/util/function/BiFunction;" A s s.heap :=
  ⟨va_Zof (hts _ sC_1) (hts _ sI_1) (va_eqi (kGv_in h kGv_c.1)) hA, va_Zqof (hts _ sC_2) (hts _ sI_2) (kGv_in h kGv_c.2) hA⟩
theorem out_all {args : Array Value} {s : State} (h : (Jvm.Cond.and given_1 narrow_1).before args s = true) (hts : ∀ w ∈ lw_tbl, w.before args s = true) : ∃ ad : Nat → Nat, ∀ (G : Kg) (w : Kw), G.2.2.2.2 = ad → s.heap.size ≤ G.2.1 → kX G w s s.heap := by
  have hA : ∀ a : Nat, a < s.heap.size → ¬ s.heap.size ≤ a := fun a z => Nat.not_le.mpr z
  have h1 : ∀ i : Nat, ∃ q : Nat × Nat, i < 29 → vk_R (kStrD i).1 (kStrD i).2.1 (kStrD i).2.2.1 q.1 s ∧ va_O "java/lang/String" q.1 (fun q => s.heap.size ≤ q) s s.heap ∧ va_OF "java/lang/String" "coder" "B" (.int 0) q.1 (fun q => s.heap.size ≤ q) s s.heap ∧ va_OF "java/lang/String" "value" "[B" (.ref q.2) q.1 (fun q => s.heap.size ≤ q) s s.heap ∧ va_T .byte q.2 (kStrD i).2.2.2.length (fun j => .int ((kStrD i).2.2.2.getD j 0)) (fun q => s.heap.size ≤ q) s s.heap := fun i => by
    by_cases hi : i < 29
    · obtain ⟨q, hq⟩ := out_str (A := fun q => s.heap.size ≤ q) h hts hA i hi
      exact ⟨q, fun _ => hq⟩
    · exact ⟨(0, 0), fun z => absurd z hi⟩
  have h2 : ∀ i : Nat, ∃ t : Nat, i < 4 → va_Z "KiteLand" (kStD i).1 "[I" (.ref t) (fun q => s.heap.size ≤ q) s s.heap ∧ va_T .int t (kStD i).2.length (fun j => .int ((kStD i).2.getD j 0)) (fun q => s.heap.size ≤ q) s s.heap := fun i => by
    by_cases hi : i < 4
    · obtain ⟨q, hq⟩ := out_arr (A := fun q => s.heap.size ≤ q) h hts hA i hi
      exact ⟨q, fun _ => hq⟩
    · exact ⟨0, fun z => absurd z hi⟩
  obtain ⟨c1, c2⟩ := out_com (A := fun q => s.heap.size ≤ q) h hts hA
  refine ⟨fun n => if n < 10 then Classical.choose (h2 (n - 1)) else if n < 50 then (Classical.choose (h1 (n - 10))).1 else (Classical.choose (h1 (n - 50))).2, fun G w hG hb => ?_⟩
  have hn : ∀ q, kA G w q → s.heap.size ≤ q := fun q z => Nat.le_trans hb z.1
  refine ⟨fun i q e => ?_, fun i q e => ?_, c1.narrow hn, ?_⟩
  · have hi : i < 4 := (List.getElem?_eq_some_iff.mp e).1
    have eq : kStD i = q := by unfold kStD; rw [List.getD_eq_getElem?_getD, e]; rfl
    obtain ⟨a, b⟩ := Classical.choose_spec (h2 i) hi
    rw [hG]
    dsimp only
    rw [if_pos (by omega), show 1 + i - 1 = i by omega, ← eq]
    exact ⟨a.narrow hn, b.narrow hn⟩
  · have hi : i < 29 := (List.getElem?_eq_some_iff.mp e).1
    have eq : kStrD i = q := by unfold kStrD; rw [List.getD_eq_getElem?_getD, e]; rfl
    obtain ⟨a, b, c, d, f⟩ := Classical.choose_spec (h1 i) hi
    rw [hG]
    dsimp only
    rw [if_neg (by omega), if_pos (by omega), if_neg (by omega), if_neg (by omega), show 10 + i - 10 = i by omega, show 50 + i - 50 = i by omega, ← eq]
    exact ⟨a, b.narrow hn, c.narrow hn, d.narrow hn, f.narrow hn⟩
  · rcases c2 with c2 | ⟨t, c2⟩
    · exact Or.inl (c2.narrow hn)
    · exact Or.inr ⟨t, c2.narrow hn⟩
