theorem P_X12_isUp {G : Kg} {σ : Kmem} {l1 l2 : Int} (p : wf (σ 1) ∧ sKt (σ 1) l1 ∧ sHr l2) : Run G WM M_X12_isUp 3 0 0 [vA G 0, vI l1, vI l2] σ (fun r s => r = kb (sUp (σ 1) l1 l2) ∧ s = σ) := by
  refine S_X12_isUp ⟨⟨p.1, p.2.1⟩, fun h => ⟨?_, rfl⟩, fun h => ⟨p, fun h2 => ⟨?_, rfl⟩, fun h2 => ⟨?_, rfl⟩⟩⟩
  · exact (kb_0 (fun q => q.1 h)).symm
  · exact (kb_0 (fun q => h2 q.2)).symm
  · exact (kb_1 ⟨h, h2⟩).symm
theorem P_X12_areTwo {G : Kg} {σ : Kmem} {l1 l2 : Int} (p : (rI l1 ∧ rI l2) ∧ wf (σ 1)) : Run G WM M_X12_areTwo 1 0 0 [vA G 0, vI l1, vI l2] σ (fun r s => r = kb ((sKt (σ 1) l1 ∧ sKt (σ 1) l2) ∧ l1 ≠ l2) ∧ s = σ) := by
  refine S_X12_areTwo ⟨⟨p.1.1, p.2⟩, fun h => ⟨(kb_0 (fun q => h q.1.1)).symm, rfl⟩, fun h => ⟨⟨p.1.2, p.2⟩, fun h2 => ⟨(kb_0 (fun q => h2 q.1.2)).symm, rfl⟩, fun h2 => ⟨p.1.1, p.1.2, fun h3 => ⟨(kb_0 (fun q => q.2 h3)).symm, rfl⟩, fun h3 => ⟨(kb_1 ⟨⟨h, h2⟩, h3⟩).symm, rfl⟩⟩⟩⟩
theorem P_X12_columnOf {G : Kg} {σ : Kmem} {l1 l2 : Int} (p : wf (σ 1) ∧ sKt (σ 1) l1 ∧ sHr l2) : Run G WM M_X12_columnOf 3 0 0 [vA G 0, vI l1, vI l2] σ (fun r s => r = sCol (σ 1) l1 l2 ∧ s = σ) := by
  have r1 := sTrn_r (v := σ 1) (k := l1) (h := l2)
  have h0 := p.1.1.2.1
  have k0 := p.2.1
  refine S_X12_columnOf ?_
  have e : ∀ z, z = sDx (sTrn (σ 1) l1 l2) → σ 1 (34 + 9 * l1 + 0) + sFar (σ 1) l1 l2 * z = sCol (σ 1) l1 l2 := by
    intro z hz; rw [hz, Int.add_zero]; rfl
  refine ⟨p, by omega, p, by omega, fun h1 => ⟨fun h2 => ⟨e _ ?_, rfl⟩, fun h2 => ⟨e _ ?_, rfl⟩⟩, fun h1 => ⟨fun h2 => ⟨fun h3 => ⟨e _ ?_, rfl⟩, fun h3 => ⟨e _ ?_, rfl⟩⟩, fun h2 => ⟨e _ ?_, rfl⟩⟩⟩
    <;> (unfold sDx; (repeat' split) <;> first | rfl | omega)
theorem P_X12_rowOf {G : Kg} {σ : Kmem} {l1 l2 : Int} (p : wf (σ 1) ∧ sKt (σ 1) l1 ∧ sHr l2) : Run G WM M_X12_rowOf 3 0 0 [vA G 0, vI l1, vI l2] σ (fun r s => r = sRow (σ 1) l1 l2 ∧ s = σ) := by
  have r1 := sTrn_r (v := σ 1) (k := l1) (h := l2)
  have h0 := p.1.1.2.1
  have k0 := p.2.1
  refine S_X12_rowOf ?_
  have e : ∀ z, z = sDy (sTrn (σ 1) l1 l2) → σ 1 (34 + 9 * l1 + 1) + sFar (σ 1) l1 l2 * z = sRow (σ 1) l1 l2 := by
    intro z hz; rw [hz]; rfl
  (repeat' (first | with_reducible exact p | refine And.intro (e _ ?_) rfl | with_reducible apply And.intro | intro)) <;> first | omega | (unfold sDy; (repeat' split) <;> first | rfl | omega)
theorem P_J9_abs_0f7a4 {G : Kg} {w : Kw} {σ : Kmem} {a : Int} (p : rI a ∧ a ≠ -2147483648) : Run G w M_J9_abs_0f7a4 0 0 0 [vI a] σ (fun r s => r = kabs a ∧ s = σ) := by
  obtain ⟨ha, hb⟩ := p
  refine Run.of (by decide +kernel) (by show (1 : Nat) ≤ 1; decide) ?_
  show Ex G w M_J9_abs_0f7a4 0 0 0 0 [(0, vI a)] [] σ _
  refine R_iload_n (i := 0) (by decide +kernel) 0 rfl ?_
  refine R_if_ge (off := 8) 9 (by decide +kernel) (by decide) ha (fun h => ?_) (fun h => ?_)
  · refine R_iload_n (i := 0) (by decide +kernel) 0 rfl ?_
    exact R_ireturn (by decide +kernel) rfl ⟨by unfold kabs; rw [if_neg (by omega)], rfl⟩
  · refine R_iload_n (i := 0) (by decide +kernel) 0 rfl ?_
    refine R_ineg (by decide +kernel) ?_
    refine R_goto (off := 4) 10 (by decide +kernel) (by decide) ?_
    exact R_ireturn (by decide +kernel) rfl ⟨by unfold kabs; rw [if_pos (by omega)], rfl⟩
theorem P_J9_max_7cf53 {G : Kg} {w : Kw} {σ : Kmem} {a b : Int} (p : rI a ∧ rI b) : Run G w M_J9_max_7cf53 0 0 0 [vI a, vI b] σ (fun r s => r = max a b ∧ s = σ) := by
  obtain ⟨ha, hb⟩ := p
  refine Run.of (by decide +kernel) (by show (2 : Nat) ≤ 2; decide) ?_
  show Ex G w M_J9_max_7cf53 0 0 0 0 [(0, vI a), (1, vI b)] [] σ _
  refine R_iload_n (i := 0) (by decide +kernel) 0 rfl ?_
  refine R_iload_n (i := 1) (by decide +kernel) 1 rfl ?_
  refine R_icmp_lt (off := 7) 9 (by decide +kernel) (by decide) ha hb (fun h => ?_) (fun h => ?_)
  · refine R_iload_n (i := 1) (by decide +kernel) 1 rfl ?_
    exact R_ireturn (by decide +kernel) rfl ⟨by omega, rfl⟩
  · refine R_iload_n (i := 0) (by decide +kernel) 0 rfl ?_
    refine R_goto (off := 4) 10 (by decide +kernel) (by decide) ?_
    exact R_ireturn (by decide +kernel) rfl ⟨by omega, rfl⟩
theorem P_J9_min_7cf53 {G : Kg} {w : Kw} {σ : Kmem} {a b : Int} (p : rI a ∧ rI b) : Run G w M_J9_min_7cf53 0 0 0 [vI a, vI b] σ (fun r s => r = min a b ∧ s = σ) := by
  obtain ⟨ha, hb⟩ := p
  refine Run.of (by decide +kernel) (by show (2 : Nat) ≤ 2; decide) ?_
  show Ex G w M_J9_min_7cf53 0 0 0 0 [(0, vI a), (1, vI b)] [] σ _
  refine R_iload_n (i := 0) (by decide +kernel) 0 rfl ?_
  refine R_iload_n (i := 1) (by decide +kernel) 1 rfl ?_
  refine R_icmp_gt (off := 7) 9 (by decide +kernel) (by decide) ha hb (fun h => ?_) (fun h => ?_)
  · refine R_iload_n (i := 1) (by decide +kernel) 1 rfl ?_
    exact R_ireturn (by decide +kernel) rfl ⟨by omega, rfl⟩
  · refine R_iload_n (i := 0) (by decide +kernel) 0 rfl ?_
    refine R_goto (off := 4) 10 (by decide +kernel) (by decide) ?_
    exact R_ireturn (by decide +kernel) rfl ⟨by omega, rfl⟩
