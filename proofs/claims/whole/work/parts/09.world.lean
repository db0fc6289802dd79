/-! THE TWO WORLDS: the class's (205 cells) and the reference's (21 cells), as their constructors lay them -/
def shX : List (Nat × Nat) := [(11, 0), (24, 4), (22, 900), (6, 0), (22, 900), (0, 0), (20, 12), (20, 12), (27, 6), (28, 8), (29, 6), (3, 0), (3, 0), (3, 0), (3, 0), (3, 0), (3, 0), (2, 0), (2, 0), (2, 0), (2, 0), (2, 0), (2, 0), (2, 0), (2, 0), (9, 0), (9, 0), (9, 0), (9, 0), (9, 0), (9, 0), (0, 0), (20, 12), (20, 12), (27, 6), (28, 8), (29, 6), (3, 0), (3, 0), (3, 0), (3, 0), (3, 0), (3, 0), (2, 0), (2, 0), (2, 0), (2, 0), (2, 0), (2, 0), (2, 0), (2, 0), (9, 0), (9, 0), (9, 0), (9, 0), (9, 0), (9, 0), (1, 0), (8, 0), (20, 6), (20, 6), (20, 6), (20, 63), (20, 63), (7, 0), (20, 60), (20, 60), (20, 60), (20, 60), (20, 60), (20, 3), (7, 0), (20, 60), (20, 60), (20, 60), (20, 60), (20, 60), (20, 3), (4, 0), (20, 60), (4, 0), (20, 60), (5, 0), (20, 63), (20, 5), (20, 5), (20, 5), (20, 20), (23, 64), (30, 6), (20, 9), (20, 9), (20, 9), (20, 9), (20, 9), (20, 9), (25, 3), (26, 3), (10, 0), (21, 60), (10, 0), (21, 60), (10, 0), (21, 60), (10, 0), (21, 60), (0, 0), (20, 12), (20, 12), (27, 6), (28, 8), (29, 6), (3, 0), (3, 0), (3, 0), (3, 0), (3, 0), (3, 0), (2, 0), (2, 0), (2, 0), (2, 0), (2, 0), (2, 0), (2, 0), (2, 0), (9, 0), (9, 0), (9, 0), (9, 0), (9, 0), (9, 0), (7, 0), (20, 60), (20, 60), (20, 60), (20, 60), (20, 60), (20, 3), (0, 0), (20, 12), (20, 12), (27, 6), (28, 8), (29, 6), (3, 0), (3, 0), (3, 0), (3, 0), (3, 0), (3, 0), (2, 0), (2, 0), (2, 0), (2, 0), (2, 0), (2, 0), (2, 0), (2, 0), (9, 0), (9, 0), (9, 0), (9, 0), (9, 0), (9, 0), (7, 0), (20, 60), (20, 60), (20, 60), (20, 60), (20, 60), (20, 3), (0, 0), (20, 12), (20, 12), (27, 6), (28, 8), (29, 6), (3, 0), (3, 0), (3, 0), (3, 0), (3, 0), (3, 0), (2, 0), (2, 0), (2, 0), (2, 0), (2, 0), (2, 0), (2, 0), (2, 0), (9, 0), (9, 0), (9, 0), (9, 0), (9, 0), (9, 0), (7, 0), (20, 60), (20, 60), (20, 60), (20, 60), (20, 60), (20, 3)]
def shM : List (Nat × Nat) := [(12, 0), (20, 3598), (21, 120), (20, 4), (20, 4), (21, 240), (22, 900), (22, 900), (20, 3), (20, 70), (20, 5), (20, 70), (20, 70), (20, 6), (20, 5), (20, 5), (20, 5), (20, 5), (20, 80), (20, 5), (20, 5)]
def rtX : List (List Int) := [[0, 0, 0, 1, 2, 0, 3, 5, 31, 57, 58, 64, 71, 78, 80, 82, 96, 97], [98, 100, 102, 104], [], [4], [], [0, 0, 0, 0, 0, 0, 0, 0, 6, 7, 8, 9, 10], [], [], [11, 12, 13, 14, 15, 16], [17, 18, 19, 20, 21, 22, 23, 24], [25, 26, 27, 28, 29, 30], [], [], [], [], [], [], [], [], [], [], [], [], [], [], [], [], [], [], [], [], [0, 0, 0, 0, 0, 0, 0, 0, 32, 33, 34, 35, 36], [], [], [37, 38, 39, 40, 41, 42], [43, 44, 45, 46, 47, 48, 49, 50], [51, 52, 53, 54, 55, 56], [], [], [], [], [], [], [], [], [], [], [], [], [], [], [], [], [], [], [], [], [3, 31], [0, 0, 59, 60, 61, 62, 63], [], [], [], [], [], [0, 0, 0, 65, 66, 67, 68, 69, 70], [], [], [], [], [], [], [0, 0, 0, 72, 73, 74, 75, 76, 77], [], [], [], [], [], [], [0, 0, 0, 0, 0, 0, 0, 0, 79], [], [0, 0, 0, 0, 0, 0, 0, 0, 81], [], [31, 58, 0, 0, 83, 84, 0, 0, 85, 0, 0, 0, 0, 86, 0, 87, 88, 89], [], [], [], [], [], [], [90, 91, 92, 93, 94, 95], [], [], [], [], [], [], [106, 139, 172], [132, 165, 198], [0, 0, 0, 99], [], [0, 0, 0, 101], [], [0, 0, 0, 103], [], [0, 0, 0, 105], [], [0, 0, 0, 0, 0, 0, 0, 0, 107, 108, 109, 110, 111], [], [], [112, 113, 114, 115, 116, 117], [118, 119, 120, 121, 122, 123, 124, 125], [126, 127, 128, 129, 130, 131], [], [], [], [], [], [], [], [], [], [], [], [], [], [], [], [], [], [], [], [], [0, 0, 0, 133, 134, 135, 136, 137, 138], [], [], [], [], [], [], [0, 0, 0, 0, 0, 0, 0, 0, 140, 141, 142, 143, 144], [], [], [145, 146, 147, 148, 149, 150], [151, 152, 153, 154, 155, 156, 157, 158], [159, 160, 161, 162, 163, 164], [], [], [], [], [], [], [], [], [], [], [], [], [], [], [], [], [], [], [], [], [0, 0, 0, 166, 167, 168, 169, 170, 171], [], [], [], [], [], [], [0, 0, 0, 0, 0, 0, 0, 0, 173, 174, 175, 176, 177], [], [], [178, 179, 180, 181, 182, 183], [184, 185, 186, 187, 188, 189, 190, 191], [192, 193, 194, 195, 196, 197], [], [], [], [], [], [], [], [], [], [], [], [], [], [], [], [], [], [], [], [], [0, 0, 0, 199, 200, 201, 202, 203, 204], [], [], [], [], [], []]
def rtM : List (List Int) := [[1, 2, 0, 0, 0, 3, 4, 5, 6, 7, 0, 0, 0, 0, 0, 0, 0, 0, 0, 0, 0, 8, 0, 0, 9, 10, 0, 11, 12, 13, 14, 15, 16, 17, 0, 0, 0, 18, 19, 20], [], [], [], [], [], [], [], [], [], [], [], [], [], [], [], [], [], [], [], []]
def rfX (σ : Kmem) (a j : Int) : Int := if a = 58 ∧ j = 0 then σ 58 0 else (rtX.getD a.toNat []).getD j.toNat 0
def rfM (_ : Kmem) (a j : Int) : Int := (rtM.getD a.toNat []).getD j.toNat 0
/-- while they run -/
def WX : Kw := (fun a => shX.getD a (99, 0), rfX, false, 205)
def WM : Kw := (fun a => shM.getD a (99, 0), rfM, false, 21)
/-- while they are made: references as they were laid -/
def WX0 : Kw := (fun a => shX.getD a (99, 0), fun σ a j => σ a j, true, 205)
def WM0 : Kw := (fun a => shM.getD a (99, 0), fun σ a j => σ a j, true, 21)
theorem WX_kN {σ : Kmem} : kN WX σ = 205 := rfl
theorem WM_kN {σ : Kmem} : kN WM σ = 21 := rfl
theorem WX_ok : kOK WX := by
  intro σ a j v h b k hb
  show rfX (kup σ a j v) b k = rfX σ b k
  unfold rfX
  split
  · rename_i e
    refine kup_ne (fun q => h ?_)
    obtain ⟨q1, q2⟩ := q
    have e1 : a = 58 := by omega
    have e2 : j = 0 := by omega
    subst e1; subst e2
    exact Or.inl ⟨by decide, by decide⟩
  · rfl
theorem WM_ok : kOK WM := fun σ a j v h b k hb => rfl
theorem W0_ok {w : Kw} (h : w.2.1 = fun σ a j => σ a j) : kOK w := by
  intro σ a j v hn b k hb
  rw [h]
  exact kup_ne (fun q => hn (by
    obtain ⟨q1, q2⟩ := q
    have e1 : a = b := by omega
    have e2 : j = k := by omega
    subst e1; subst e2; exact hb))
theorem WX0_ok : kOK WX0 := W0_ok rfl
theorem WM0_ok : kOK WM0 := W0_ok rfl
/-- a county, seasons, a tray, a life: where they may lie -/
def isC (c : Int) : Prop := c = 5 ∨ c = 31 ∨ c = 106 ∨ c = 139 ∨ c = 172
def isS (c : Int) : Prop := c = 64 ∨ c = 71 ∨ c = 132 ∨ c = 165 ∨ c = 198
def isT (c : Int) : Prop := c = 98 ∨ c = 100 ∨ c = 102 ∨ c = 104
def isLf (c : Int) : Prop := c = 78 ∨ c = 80
theorem kC_self {σ : Kmem} {c : Int} (h : isC c) : kIs WX σ c 0 := by
  rcases h with rfl | rfl | rfl | rfl | rfl <;> exact ⟨by decide, (by show Int.toNat _ < 205; decide), by decide⟩
theorem kC_dirs {σ : Kmem} {c : Int} (h : isC c) : kAr WX σ (c + 1) 20 12 := by
  rcases h with rfl | rfl | rfl | rfl | rfl <;> exact ⟨⟨by decide, (by show Int.toNat _ < 205; decide), by decide⟩, by decide, by decide⟩
theorem kC_forces {σ : Kmem} {c : Int} (h : isC c) : kAr WX σ (c + 2) 20 12 := by
  rcases h with rfl | rfl | rfl | rfl | rfl <;> exact ⟨⟨by decide, (by show Int.toNat _ < 205; decide), by decide⟩, by decide, by decide⟩
theorem kC_kites {σ : Kmem} {c : Int} (h : isC c) : kAr WX σ (c + 3) 27 6 := by
  rcases h with rfl | rfl | rfl | rfl | rfl <;> exact ⟨⟨by decide, (by show Int.toNat _ < 205; decide), by decide⟩, by decide, by decide⟩
theorem kC_crops {σ : Kmem} {c : Int} (h : isC c) : kAr WX σ (c + 4) 28 8 := by
  rcases h with rfl | rfl | rfl | rfl | rfl <;> exact ⟨⟨by decide, (by show Int.toNat _ < 205; decide), by decide⟩, by decide, by decide⟩
theorem kC_tens {σ : Kmem} {c : Int} (h : isC c) : kAr WX σ (c + 5) 29 6 := by
  rcases h with rfl | rfl | rfl | rfl | rfl <;> exact ⟨⟨by decide, (by show Int.toNat _ < 205; decide), by decide⟩, by decide, by decide⟩
theorem kC_r8 {σ : Kmem} {c : Int} (h : isC c) : WX.2.1 σ c 8 = c + 1 := by
  rcases h with rfl | rfl | rfl | rfl | rfl <;> rfl
theorem kC_n1 {c : Int} (h : isC c) : c + 1 ≠ 0 := by
  rcases h with rfl | rfl | rfl | rfl | rfl <;> decide
theorem kC_r9 {σ : Kmem} {c : Int} (h : isC c) : WX.2.1 σ c 9 = c + 2 := by
  rcases h with rfl | rfl | rfl | rfl | rfl <;> rfl
theorem kC_n2 {c : Int} (h : isC c) : c + 2 ≠ 0 := by
  rcases h with rfl | rfl | rfl | rfl | rfl <;> decide
theorem kC_r10 {σ : Kmem} {c : Int} (h : isC c) : WX.2.1 σ c 10 = c + 3 := by
  rcases h with rfl | rfl | rfl | rfl | rfl <;> rfl
theorem kC_n3 {c : Int} (h : isC c) : c + 3 ≠ 0 := by
  rcases h with rfl | rfl | rfl | rfl | rfl <;> decide
theorem kC_r11 {σ : Kmem} {c : Int} (h : isC c) : WX.2.1 σ c 11 = c + 4 := by
  rcases h with rfl | rfl | rfl | rfl | rfl <;> rfl
theorem kC_n4 {c : Int} (h : isC c) : c + 4 ≠ 0 := by
  rcases h with rfl | rfl | rfl | rfl | rfl <;> decide
theorem kC_r12 {σ : Kmem} {c : Int} (h : isC c) : WX.2.1 σ c 12 = c + 5 := by
  rcases h with rfl | rfl | rfl | rfl | rfl <;> rfl
theorem kC_n5 {c : Int} (h : isC c) : c + 5 ≠ 0 := by
  rcases h with rfl | rfl | rfl | rfl | rfl <;> decide
theorem kC_kiteAt {σ : Kmem} {c i : Int} (h : isC c) (hi : 0 ≤ i ∧ i < 6) : WX.2.1 σ (c + 3) i = c + 6 + i := by
  have hi : i = 0 ∨ i = 1 ∨ i = 2 ∨ i = 3 ∨ i = 4 ∨ i = 5 := by omega
  rcases h with rfl | rfl | rfl | rfl | rfl <;> rcases hi with rfl | rfl | rfl | rfl | rfl | rfl <;> rfl
theorem kC_kite {σ : Kmem} {c i : Int} (h : isC c) (hi : 0 ≤ i ∧ i < 6) : kIs WX σ (c + 6 + i) 3 := by
  have hi : i = 0 ∨ i = 1 ∨ i = 2 ∨ i = 3 ∨ i = 4 ∨ i = 5 := by omega
  rcases h with rfl | rfl | rfl | rfl | rfl <;> rcases hi with rfl | rfl | rfl | rfl | rfl | rfl <;> exact ⟨by decide, (by show Int.toNat _ < 205; decide), by decide⟩
theorem kC_kiteN {c i : Int} (h : isC c) (hi : 0 ≤ i ∧ i < 6) : c + 6 + i ≠ 0 := by
  rcases h with rfl | rfl | rfl | rfl | rfl <;> omega
theorem kC_cropAt {σ : Kmem} {c i : Int} (h : isC c) (hi : 0 ≤ i ∧ i < 8) : WX.2.1 σ (c + 4) i = c + 12 + i := by
  have hi : i = 0 ∨ i = 1 ∨ i = 2 ∨ i = 3 ∨ i = 4 ∨ i = 5 ∨ i = 6 ∨ i = 7 := by omega
  rcases h with rfl | rfl | rfl | rfl | rfl <;> rcases hi with rfl | rfl | rfl | rfl | rfl | rfl | rfl | rfl <;> rfl
theorem kC_crop {σ : Kmem} {c i : Int} (h : isC c) (hi : 0 ≤ i ∧ i < 8) : kIs WX σ (c + 12 + i) 2 := by
  have hi : i = 0 ∨ i = 1 ∨ i = 2 ∨ i = 3 ∨ i = 4 ∨ i = 5 ∨ i = 6 ∨ i = 7 := by omega
  rcases h with rfl | rfl | rfl | rfl | rfl <;> rcases hi with rfl | rfl | rfl | rfl | rfl | rfl | rfl | rfl <;> exact ⟨by decide, (by show Int.toNat _ < 205; decide), by decide⟩
theorem kC_cropN {c i : Int} (h : isC c) (hi : 0 ≤ i ∧ i < 8) : c + 12 + i ≠ 0 := by
  rcases h with rfl | rfl | rfl | rfl | rfl <;> omega
theorem kC_tenAt {σ : Kmem} {c i : Int} (h : isC c) (hi : 0 ≤ i ∧ i < 6) : WX.2.1 σ (c + 5) i = c + 20 + i := by
  have hi : i = 0 ∨ i = 1 ∨ i = 2 ∨ i = 3 ∨ i = 4 ∨ i = 5 := by omega
  rcases h with rfl | rfl | rfl | rfl | rfl <;> rcases hi with rfl | rfl | rfl | rfl | rfl | rfl <;> rfl
theorem kC_ten {σ : Kmem} {c i : Int} (h : isC c) (hi : 0 ≤ i ∧ i < 6) : kIs WX σ (c + 20 + i) 9 := by
  have hi : i = 0 ∨ i = 1 ∨ i = 2 ∨ i = 3 ∨ i = 4 ∨ i = 5 := by omega
  rcases h with rfl | rfl | rfl | rfl | rfl <;> rcases hi with rfl | rfl | rfl | rfl | rfl | rfl <;> exact ⟨by decide, (by show Int.toNat _ < 205; decide), by decide⟩
theorem kC_tenN {c i : Int} (h : isC c) (hi : 0 ≤ i ∧ i < 6) : c + 20 + i ≠ 0 := by
  rcases h with rfl | rfl | rfl | rfl | rfl <;> omega
theorem kS_self {σ : Kmem} {c : Int} (h : isS c) : kIs WX σ c 7 := by
  rcases h with rfl | rfl | rfl | rfl | rfl <;> exact ⟨by decide, (by show Int.toNat _ < 205; decide), by decide⟩
theorem kS_kinds {σ : Kmem} {c : Int} (h : isS c) : kAr WX σ (c + 1) 20 60 := by
  rcases h with rfl | rfl | rfl | rfl | rfl <;> exact ⟨⟨by decide, (by show Int.toNat _ < 205; decide), by decide⟩, by decide, by decide⟩
theorem kS_tests {σ : Kmem} {c : Int} (h : isS c) : kAr WX σ (c + 2) 20 60 := by
  rcases h with rfl | rfl | rfl | rfl | rfl <;> exact ⟨⟨by decide, (by show Int.toNat _ < 205; decide), by decide⟩, by decide, by decide⟩
theorem kS_things {σ : Kmem} {c : Int} (h : isS c) : kAr WX σ (c + 3) 20 60 := by
  rcases h with rfl | rfl | rfl | rfl | rfl <;> exact ⟨⟨by decide, (by show Int.toNat _ < 205; decide), by decide⟩, by decide, by decide⟩
theorem kS_nums {σ : Kmem} {c : Int} (h : isS c) : kAr WX σ (c + 4) 20 60 := by
  rcases h with rfl | rfl | rfl | rfl | rfl <;> exact ⟨⟨by decide, (by show Int.toNat _ < 205; decide), by decide⟩, by decide, by decide⟩
theorem kS_parts {σ : Kmem} {c : Int} (h : isS c) : kAr WX σ (c + 5) 20 60 := by
  rcases h with rfl | rfl | rfl | rfl | rfl <;> exact ⟨⟨by decide, (by show Int.toNat _ < 205; decide), by decide⟩, by decide, by decide⟩
theorem kS_open {σ : Kmem} {c : Int} (h : isS c) : kAr WX σ (c + 6) 20 3 := by
  rcases h with rfl | rfl | rfl | rfl | rfl <;> exact ⟨⟨by decide, (by show Int.toNat _ < 205; decide), by decide⟩, by decide, by decide⟩
theorem kS_r3 {σ : Kmem} {c : Int} (h : isS c) : WX.2.1 σ c 3 = c + 1 := by
  rcases h with rfl | rfl | rfl | rfl | rfl <;> rfl
theorem kS_n1 {c : Int} (h : isS c) : c + 1 ≠ 0 := by
  rcases h with rfl | rfl | rfl | rfl | rfl <;> decide
theorem kS_r4 {σ : Kmem} {c : Int} (h : isS c) : WX.2.1 σ c 4 = c + 2 := by
  rcases h with rfl | rfl | rfl | rfl | rfl <;> rfl
theorem kS_n2 {c : Int} (h : isS c) : c + 2 ≠ 0 := by
  rcases h with rfl | rfl | rfl | rfl | rfl <;> decide
theorem kS_r5 {σ : Kmem} {c : Int} (h : isS c) : WX.2.1 σ c 5 = c + 3 := by
  rcases h with rfl | rfl | rfl | rfl | rfl <;> rfl
theorem kS_n3 {c : Int} (h : isS c) : c + 3 ≠ 0 := by
  rcases h with rfl | rfl | rfl | rfl | rfl <;> decide
theorem kS_r6 {σ : Kmem} {c : Int} (h : isS c) : WX.2.1 σ c 6 = c + 4 := by
  rcases h with rfl | rfl | rfl | rfl | rfl <;> rfl
theorem kS_n4 {c : Int} (h : isS c) : c + 4 ≠ 0 := by
  rcases h with rfl | rfl | rfl | rfl | rfl <;> decide
theorem kS_r7 {σ : Kmem} {c : Int} (h : isS c) : WX.2.1 σ c 7 = c + 5 := by
  rcases h with rfl | rfl | rfl | rfl | rfl <;> rfl
theorem kS_n5 {c : Int} (h : isS c) : c + 5 ≠ 0 := by
  rcases h with rfl | rfl | rfl | rfl | rfl <;> decide
theorem kS_r8 {σ : Kmem} {c : Int} (h : isS c) : WX.2.1 σ c 8 = c + 6 := by
  rcases h with rfl | rfl | rfl | rfl | rfl <;> rfl
theorem kS_n6 {c : Int} (h : isS c) : c + 6 ≠ 0 := by
  rcases h with rfl | rfl | rfl | rfl | rfl <;> decide
theorem kT_self {σ : Kmem} {c : Int} (h : isT c) : kIs WX σ c 10 := by
  rcases h with rfl | rfl | rfl | rfl <;> exact ⟨by decide, (by show Int.toNat _ < 205; decide), by decide⟩
theorem kT_nums {σ : Kmem} {c : Int} (h : isT c) : kAr WX σ (c + 1) 21 60 := by
  rcases h with rfl | rfl | rfl | rfl <;> exact ⟨⟨by decide, (by show Int.toNat _ < 205; decide), by decide⟩, by decide, by decide⟩
theorem kT_r3 {σ : Kmem} {c : Int} (h : isT c) : WX.2.1 σ c 3 = c + 1 := by
  rcases h with rfl | rfl | rfl | rfl <;> rfl
theorem kT_n1 {c : Int} (h : isT c) : c + 1 ≠ 0 := by
  rcases h with rfl | rfl | rfl | rfl <;> decide
theorem kL_self {σ : Kmem} {c : Int} (h : isLf c) : kIs WX σ c 4 := by
  rcases h with rfl | rfl <;> exact ⟨by decide, (by show Int.toNat _ < 205; decide), by decide⟩
theorem kL_rounds {σ : Kmem} {c : Int} (h : isLf c) : kAr WX σ (c + 1) 20 60 := by
  rcases h with rfl | rfl <;> exact ⟨⟨by decide, (by show Int.toNat _ < 205; decide), by decide⟩, by decide, by decide⟩
theorem kL_r8 {σ : Kmem} {c : Int} (h : isLf c) : WX.2.1 σ c 8 = c + 1 := by
  rcases h with rfl | rfl <;> rfl
theorem kL_n1 {c : Int} (h : isLf c) : c + 1 ≠ 0 := by
  rcases h with rfl | rfl <;> decide
def adT (i : Int) : Int := ([98, 100, 102, 104] : List Int).getD i.toNat 0
theorem adT_at {σ : Kmem} {i : Int} (hi : 0 ≤ i ∧ i < 4) : WX.2.1 σ 1 i = adT i := by
  have hi : i = 0 ∨ i = 1 ∨ i = 2 ∨ i = 3 := by omega
  rcases hi with rfl | rfl | rfl | rfl <;> rfl
theorem adT_is {i : Int} (hi : 0 ≤ i ∧ i < 4) : isT (adT i) := by
  have hi : i = 0 ∨ i = 1 ∨ i = 2 ∨ i = 3 := by omega
  rcases hi with rfl | rfl | rfl | rfl <;> (unfold isT adT; decide)
theorem adT_n {i : Int} (hi : 0 ≤ i ∧ i < 4) : adT i ≠ 0 := by
  have hi : i = 0 ∨ i = 1 ∨ i = 2 ∨ i = 3 := by omega
  rcases hi with rfl | rfl | rfl | rfl <;> decide
def adC (i : Int) : Int := ([106, 139, 172] : List Int).getD i.toNat 0
theorem adC_at {σ : Kmem} {i : Int} (hi : 0 ≤ i ∧ i < 3) : WX.2.1 σ 96 i = adC i := by
  have hi : i = 0 ∨ i = 1 ∨ i = 2 := by omega
  rcases hi with rfl | rfl | rfl <;> rfl
theorem adC_is {i : Int} (hi : 0 ≤ i ∧ i < 3) : isC (adC i) := by
  have hi : i = 0 ∨ i = 1 ∨ i = 2 := by omega
  rcases hi with rfl | rfl | rfl <;> (unfold isC adC; decide)
theorem adC_n {i : Int} (hi : 0 ≤ i ∧ i < 3) : adC i ≠ 0 := by
  have hi : i = 0 ∨ i = 1 ∨ i = 2 := by omega
  rcases hi with rfl | rfl | rfl <;> decide
def adS (i : Int) : Int := ([132, 165, 198] : List Int).getD i.toNat 0
theorem adS_at {σ : Kmem} {i : Int} (hi : 0 ≤ i ∧ i < 3) : WX.2.1 σ 97 i = adS i := by
  have hi : i = 0 ∨ i = 1 ∨ i = 2 := by omega
  rcases hi with rfl | rfl | rfl <;> rfl
theorem adS_is {i : Int} (hi : 0 ≤ i ∧ i < 3) : isS (adS i) := by
  have hi : i = 0 ∨ i = 1 ∨ i = 2 := by omega
  rcases hi with rfl | rfl | rfl <;> (unfold isS adS; decide)
theorem adS_n {i : Int} (hi : 0 ≤ i ∧ i < 3) : adS i ≠ 0 := by
  have hi : i = 0 ∨ i = 1 ∨ i = 2 := by omega
  rcases hi with rfl | rfl | rfl <;> decide
theorem adP_at {σ : Kmem} {i : Int} (hi : 0 ≤ i ∧ i < 6) : WX.2.1 σ 89 i = 90 + i := by
  have hi : i = 0 ∨ i = 1 ∨ i = 2 ∨ i = 3 ∨ i = 4 ∨ i = 5 := by omega
  rcases hi with rfl | rfl | rfl | rfl | rfl | rfl <;> rfl
theorem adP_ar {σ : Kmem} {i : Int} (hi : 0 ≤ i ∧ i < 6) : kAr WX σ (90 + i) 20 9 := by
  have hi : i = 0 ∨ i = 1 ∨ i = 2 ∨ i = 3 ∨ i = 4 ∨ i = 5 := by omega
  rcases hi with rfl | rfl | rfl | rfl | rfl | rfl <;> exact ⟨⟨by decide, (by show Int.toNat _ < 205; decide), by decide⟩, by decide, by decide⟩
