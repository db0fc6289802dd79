/-! KiteLandModel.plain(I)V, while the reference is made -/
def ZP (σ : Kmem) : Prop := σ (-7) 0 = 21 ∧ σ 0 0 = 1
theorem zpu {σ : Kmem} {j v : Int} (h : ZP σ) : ZP (kup σ 1 j v) := ⟨by rw [kup_c (by decide)]; exact h.1, by rw [kup_ne (by omega)]; exact h.2⟩
theorem zps {σ : Kmem} {f : Int → Int} (h : ZP σ) : ZP (kst σ 1 f) := ⟨by rw [kst_ne (by decide)]; exact h.1, by rw [kst_ne (by decide)]; exact h.2⟩
theorem zk0 {σ : Kmem} (h : ZP σ) : kIs WM0 σ 0 12 := kIs_0 WM0_g h.1 ⟨by decide, by decide, by decide⟩
theorem zk1 {σ : Kmem} (h : ZP σ) : kAr WM0 σ 1 20 3598 := kAr_0 WM0_g h.1 ⟨by decide, by decide, by decide⟩ (by decide)
theorem zr0 {σ : Kmem} (h : ZP σ) : WM0.2.1 σ 0 0 = 1 := h.2
abbrev ZE_X12_plain_2 (G : Kg) (l1 l2 : Int) (σ : Kmem) (Q : Int → Kmem → Prop) : Prop := Ex G WM0 M_X12_plain 0 0 0 2 [(0, vA G 0), (1, vI l1), (2, vI l2)] [] σ Q
abbrev ZE_X12_plain_36 (G : Kg) (l1 l2 : Int) (σ : Kmem) (Q : Int → Kmem → Prop) : Prop := Ex G WM0 M_X12_plain 0 0 0 36 [(0, vA G 0), (1, vI l1), (2, vI l2)] [] σ Q
theorem Z_X12_plain {G : Kg} {σ : Kmem} {Q : Int → Kmem → Prop} {l1 : Int}  (h : ZE_X12_plain_2 G l1 0 σ Q) : Run G WM0 M_X12_plain 0 0 0 [vA G 0, vI l1] σ Q := by
  refine Run.of (by decide +kernel) (by show (2 : Nat) ≤ 3; decide) ?_
  show Ex G WM0 M_X12_plain 0 0 0 0 [(0, vA G 0), (1, vI l1)] [] σ Q
  refine R_iconst e_X12_plain_0.1 ?_
  refine R_istore_n (ls2 := [(2, vI 0), (0, vA G 0), (1, vI l1)]) e_X12_plain_0.2.1 (by decide) rfl ?_
  refine R_ls (ls2 := [(0, vA G 0), (1, vI l1), (2, vI 0)]) [1, 2, 0] rfl ?_
  exact h
theorem Z_X12_plain_2 {G : Kg} {σ : Kmem} {Q : Int → Kmem → Prop} {l1 l2 : Int} (hz : ZP σ) (h : (rI l2) ∧ ((514 ≤ l2 → (0 ≤ l1 + 5 ∧ l1 + 5 < 3598) ∧ ZE_X12_plain_36 G l1 0 (kup σ 1 (l1 + 5) 6) Q) ∧ (l2 < 514 → (0 ≤ l1 + l2 ∧ l1 + l2 < 3598) ∧ ZE_X12_plain_2 G l1 (l2 + 1) (kup σ 1 (l1 + l2) 0) Q))) : ZE_X12_plain_2 G l1 l2 σ Q := by
  refine R_iload_n e_X12_plain_0.2.2.1 2 rfl ?_
  refine R_sipush e_X12_plain_0.2.2.2.1 (by decide) ?_
  obtain ⟨q1, h⟩ := h
  refine R_icmp_ge 24 e_X12_plain_0.2.2.2.2.1 (by decide) q1 (by decide) (fun q => ?_) (fun q => ?_)
  · replace h := h.1 q
    refine R_aload_n e_X12_plain_1.2.2.2.2.1 0 rfl ?_
    refine R_getA 12 0 1 e_X12_plain_1.2.2.2.2.2.1 f_X12_7 (zk0 (by first | exact hz | exact zpu hz | exact zpu (zpu hz))) (fun _ _ => rfl) (zr0 (by first | exact hz | exact zpu hz | exact zpu (zpu hz))) (by decide) ?_
    refine R_iload_n e_X12_plain_1.2.2.2.2.2.2.1 1 rfl ?_
    refine R_iconst e_X12_plain_1.2.2.2.2.2.2.2.1 ?_
    refine R_iadd e_X12_plain_1.2.2.2.2.2.2.2.2.1 ?_
    refine R_bipush e_X12_plain_1.2.2.2.2.2.2.2.2.2 (by decide) ?_
    obtain ⟨q2, h⟩ := h
    refine R_iast 3598 WM0_ok e_X12_plain_2.1 (zk1 (by first | exact hz | exact zpu hz | exact zpu (zpu hz))) q2 ?_
    refine R_iconst e_X12_plain_2.2.1 ?_
    refine R_istore_n (ls2 := [(2, vI 0), (0, vA G 0), (1, vI l1)]) e_X12_plain_2.2.2.1 (by decide) rfl ?_
    refine R_ls (ls2 := [(0, vA G 0), (1, vI l1), (2, vI 0)]) [1, 2, 0] rfl ?_
    exact h
  · replace h := h.2 q
    refine R_aload_n e_X12_plain_0.2.2.2.2.2.1 0 rfl ?_
    refine R_getA 12 0 1 e_X12_plain_0.2.2.2.2.2.2.1 f_X12_7 (zk0 (by first | exact hz | exact zpu hz | exact zpu (zpu hz))) (fun _ _ => rfl) (zr0 (by first | exact hz | exact zpu hz | exact zpu (zpu hz))) (by decide) ?_
    refine R_iload_n e_X12_plain_0.2.2.2.2.2.2.2.1 1 rfl ?_
    refine R_iload_n e_X12_plain_0.2.2.2.2.2.2.2.2.1 2 rfl ?_
    refine R_iadd e_X12_plain_0.2.2.2.2.2.2.2.2.2 ?_
    refine R_iconst e_X12_plain_1.1 ?_
    obtain ⟨q3, h⟩ := h
    refine R_iast 3598 WM0_ok e_X12_plain_1.2.1 (zk1 (by first | exact hz | exact zpu hz | exact zpu (zpu hz))) q3 ?_
    refine R_iinc (ls2 := [(2, vI (l2 + 1)), (0, vA G 0), (1, vI l1)]) e_X12_plain_1.2.2.1 2 rfl (by decide) rfl ?_
    refine R_goto 2 e_X12_plain_1.2.2.2.1 (by decide) ?_
    refine R_ls (ls2 := [(0, vA G 0), (1, vI l1), (2, vI (l2 + 1))]) [1, 2, 0] rfl ?_
    exact h
theorem Z_X12_plain_36 {G : Kg} {σ : Kmem} {Q : Int → Kmem → Prop} {l1 l2 : Int} (hz : ZP σ) (h : (rI l2) ∧ ((12 ≤ l2 → (0 ≤ l1 + 8 ∧ l1 + 8 < 3598) ∧ Q 0 (kup σ 1 (l1 + 8) (-1))) ∧ (l2 < 12 → (0 ≤ (l1 + 10) + (2 * l2) ∧ (l1 + 10) + (2 * l2) < 3598) ∧ (0 ≤ ((l1 + 10) + (2 * l2)) + 1 ∧ ((l1 + 10) + (2 * l2)) + 1 < 3598) ∧ ZE_X12_plain_36 G l1 (l2 + 1) (kup (kup σ 1 ((l1 + 10) + (2 * l2)) 2) 1 (((l1 + 10) + (2 * l2)) + 1) 2) Q))) : ZE_X12_plain_36 G l1 l2 σ Q := by
  refine R_iload_n e_X12_plain_2.2.2.2.1 2 rfl ?_
  refine R_bipush e_X12_plain_2.2.2.2.2.1 (by decide) ?_
  obtain ⟨q4, h⟩ := h
  refine R_icmp_ge 78 e_X12_plain_2.2.2.2.2.2.1 (by decide) q4 (by decide) (fun q => ?_) (fun q => ?_)
  · replace h := h.1 q
    refine R_aload_n e_X12_plain_5.2.2.1 0 rfl ?_
    refine R_getA 12 0 1 e_X12_plain_5.2.2.2.1 f_X12_7 (zk0 (by first | exact hz | exact zpu hz | exact zpu (zpu hz))) (fun _ _ => rfl) (zr0 (by first | exact hz | exact zpu hz | exact zpu (zpu hz))) (by decide) ?_
    refine R_iload_n e_X12_plain_5.2.2.2.2.1 1 rfl ?_
    refine R_bipush e_X12_plain_5.2.2.2.2.2.1 (by decide) ?_
    refine R_iadd e_X12_plain_5.2.2.2.2.2.2.1 ?_
    refine R_iconst e_X12_plain_5.2.2.2.2.2.2.2.1 ?_
    obtain ⟨q5, h⟩ := h
    refine R_iast 3598 WM0_ok e_X12_plain_5.2.2.2.2.2.2.2.2.1 (zk1 (by first | exact hz | exact zpu hz | exact zpu (zpu hz))) q5 ?_
    exact R_return e_X12_plain_5.2.2.2.2.2.2.2.2.2 rfl h
  · replace h := h.2 q
    refine R_aload_n e_X12_plain_2.2.2.2.2.2.2.1 0 rfl ?_
    refine R_getA 12 0 1 e_X12_plain_2.2.2.2.2.2.2.2.1 f_X12_7 (zk0 (by first | exact hz | exact zpu hz | exact zpu (zpu hz))) (fun _ _ => rfl) (zr0 (by first | exact hz | exact zpu hz | exact zpu (zpu hz))) (by decide) ?_
    refine R_iload_n e_X12_plain_2.2.2.2.2.2.2.2.2.1 1 rfl ?_
    refine R_bipush e_X12_plain_2.2.2.2.2.2.2.2.2.2 (by decide) ?_
    refine R_iadd e_X12_plain_3.1 ?_
    refine R_iconst e_X12_plain_3.2.1 ?_
    refine R_iload_n e_X12_plain_3.2.2.1 2 rfl ?_
    refine R_imul e_X12_plain_3.2.2.2.1 ?_
    refine R_iadd e_X12_plain_3.2.2.2.2.1 ?_
    refine R_iconst e_X12_plain_3.2.2.2.2.2.1 ?_
    obtain ⟨q6, h⟩ := h
    refine R_iast 3598 WM0_ok e_X12_plain_3.2.2.2.2.2.2.1 (zk1 (by first | exact hz | exact zpu hz | exact zpu (zpu hz))) q6 ?_
    refine R_aload_n e_X12_plain_3.2.2.2.2.2.2.2.1 0 rfl ?_
    refine R_getA 12 0 1 e_X12_plain_3.2.2.2.2.2.2.2.2.1 f_X12_7 (zk0 (by first | exact hz | exact zpu hz | exact zpu (zpu hz))) (fun _ _ => rfl) (zr0 (by first | exact hz | exact zpu hz | exact zpu (zpu hz))) (by decide) ?_
    refine R_iload_n e_X12_plain_3.2.2.2.2.2.2.2.2.2 1 rfl ?_
    refine R_bipush e_X12_plain_4.1 (by decide) ?_
    refine R_iadd e_X12_plain_4.2.1 ?_
    refine R_iconst e_X12_plain_4.2.2.1 ?_
    refine R_iload_n e_X12_plain_4.2.2.2.1 2 rfl ?_
    refine R_imul e_X12_plain_4.2.2.2.2.1 ?_
    refine R_iadd e_X12_plain_4.2.2.2.2.2.1 ?_
    refine R_iconst e_X12_plain_4.2.2.2.2.2.2.1 ?_
    refine R_iadd e_X12_plain_4.2.2.2.2.2.2.2.1 ?_
    refine R_iconst e_X12_plain_4.2.2.2.2.2.2.2.2.1 ?_
    obtain ⟨q7, h⟩ := h
    refine R_iast 3598 WM0_ok e_X12_plain_4.2.2.2.2.2.2.2.2.2 (zk1 (by first | exact hz | exact zpu hz | exact zpu (zpu hz))) q7 ?_
    refine R_iinc (ls2 := [(2, vI (l2 + 1)), (0, vA G 0), (1, vI l1)]) e_X12_plain_5.1 2 rfl (by decide) rfl ?_
    refine R_goto 36 e_X12_plain_5.2.1 (by decide) ?_
    refine R_ls (ls2 := [(0, vA G 0), (1, vI l1), (2, vI (l2 + 1))]) [1, 2, 0] rfl ?_
    exact h
theorem Z0_X12_plain {G : Kg} {σ : Kmem} {a : Int} (hz : ZP σ) (p : 0 ≤ a ∧ a + 514 ≤ 3598) : Run G WM0 M_X12_plain 0 0 0 [vA G 0, vI a] σ (fun x s => x = 0 ∧ s = tPl σ a) := by
  refine Z_X12_plain ?_
  refine kloopP (E := fun i τ => ZE_X12_plain_2 G a i τ (fun x s => x = 0 ∧ s = tPl σ a)) (fun i τ => τ = kst σ 1 (fun j => if a ≤ j ∧ j < a + (i : Int) then 0 else σ 1 j)) 514 (fun i τ hi hI ih => Z_X12_plain_2 (by rw [hI]; exact zps hz) ⟨by constructor <;> omega, fun z => ⟨by omega, ?_⟩, fun z => ⟨by omega, ih (by omega) _ ?_⟩⟩) ?_
  · refine kloopP (E := fun i τ => ZE_X12_plain_36 G a i τ (fun x s => x = 0 ∧ s = tPl σ a)) (fun i τ => τ = kst σ 1 (fun j => if a + 10 ≤ j ∧ j < a + 10 + 2 * (i : Int) then 2 else if j = a + 5 then 6 else if a ≤ j ∧ j < a + 514 then 0 else σ 1 j)) 12 (fun i τ hi hI ih => Z_X12_plain_36 (by rw [hI]; exact zps hz) ⟨by constructor <;> omega, fun z => ⟨by omega, rfl, ?_⟩, fun z => ⟨by omega, by omega, ih (by omega) _ ?_⟩⟩) ?_
    · rw [hI, kup_st]
      unfold tPl
      congr 1
      funext j
      unfold ku plV
      dsimp only
      by_cases e8 : j = a + 8
      · rw [if_pos e8, if_pos (by omega), if_neg (by omega), if_pos (by omega)]
      · rw [if_neg e8]
        by_cases e1 : a + 10 ≤ j ∧ j < a + 10 + 2 * (i : Int)
        · rw [if_pos e1, if_pos (by omega), if_neg (by omega), if_neg (by omega), if_pos (by omega)]
        · rw [if_neg e1]
          by_cases e5 : j = a + 5
          · rw [if_pos e5, if_pos (by omega), if_pos (by omega)]
          · rw [if_neg e5]
            by_cases er : a ≤ j ∧ j < a + 514
            · rw [if_pos er, if_pos er, if_neg (by omega), if_neg (by omega), if_neg (by omega)]
            · rw [if_neg er, if_neg er]
    · rw [hI, kup_st, kup_st]
      congr 1
      funext j
      unfold ku
      dsimp only
      by_cases e1 : j = a + 10 + 2 * (i : Int) + 1
      · rw [if_pos e1, if_pos (by omega)]
      · rw [if_neg e1]
        by_cases e2 : j = a + 10 + 2 * (i : Int)
        · rw [if_pos e2, if_pos (by omega)]
        · rw [if_neg e2]
          by_cases e3 : a + 10 ≤ j ∧ j < a + 10 + 2 * (i : Int)
          · rw [if_pos e3, if_pos (by omega)]
          · rw [if_neg e3, if_neg (show ¬ (a + 10 ≤ j ∧ j < a + 10 + 2 * ((i + 1 : Nat) : Int)) by omega)]
    · rw [hI, kup_st]
      congr 1
      funext j
      unfold ku
      dsimp only
      rw [if_neg (show ¬ (a + 10 ≤ j ∧ j < a + 10 + 2 * ((0 : Nat) : Int)) by omega)]
      by_cases e : j = a + 5
      · rw [if_pos e, if_pos e]
      · rw [if_neg e, if_neg e]
        by_cases er : a ≤ j ∧ j < a + (i : Int)
        · rw [if_pos er, if_pos (by omega)]
        · rw [if_neg er, if_neg (by omega)]
  · rw [hI, kup_st]
    congr 1
    funext j
    unfold ku
    dsimp only
    by_cases e : j = a + (i : Int)
    · rw [if_pos e, if_pos (by omega)]
    · rw [if_neg e]
      by_cases er : a ≤ j ∧ j < a + (i : Int)
      · rw [if_pos er, if_pos (by omega)]
      · rw [if_neg er, if_neg (by omega)]
  · have : (fun j => if a ≤ j ∧ j < a + ((0 : Nat) : Int) then 0 else σ 1 j) = σ 1 := by funext j; rw [if_neg (by omega)]
    rw [this, kst_id]
theorem I_plain {G : Kg} {σ : Kmem} (h1 : σ (-7) 0 = 21) (h2 : σ 0 0 = 1) : Run G WM0 M_X12_plain 0 0 0 [vA G 0, vI 0] σ (fun x s => x = 0 ∧ s = tPl σ 0) := Z0_X12_plain ⟨h1, h2⟩ (by decide)
